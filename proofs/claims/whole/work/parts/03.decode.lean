theorem d_BR_init_0 : decode b_BR_init 0 = .ok (.aload_n 0, 1) := by decide +kernel
theorem d_BR_init_1 : decode b_BR_init 1 = .ok (.invokespecial 1, 3) := by decide +kernel
theorem d_BR_init_4 : decode b_BR_init 4 = .ok (.aload_n 0, 1) := by decide +kernel
theorem d_BR_init_5 : decode b_BR_init 5 = .ok (.bipush 8, 2) := by decide +kernel
theorem d_BR_init_7 : decode b_BR_init 7 = .ok (.newarray .int, 2) := by decide +kernel
theorem d_BR_init_9 : decode b_BR_init 9 = .ok (.putfield 9, 3) := by decide +kernel
theorem d_BR_init_12 : decode b_BR_init 12 = .ok (.aload_n 0, 1) := by decide +kernel
theorem d_BR_init_13 : decode b_BR_init 13 = .ok (.bipush 32, 2) := by decide +kernel
theorem d_BR_init_15 : decode b_BR_init 15 = .ok (.newarray .int, 2) := by decide +kernel
theorem d_BR_init_17 : decode b_BR_init 17 = .ok (.putfield 13, 3) := by decide +kernel
theorem d_BR_init_20 : decode b_BR_init 20 = .ok (.aload_n 0, 1) := by decide +kernel
theorem d_BR_init_21 : decode b_BR_init 21 = .ok (.bipush 8, 2) := by decide +kernel
theorem d_BR_init_23 : decode b_BR_init 23 = .ok (.newarray .int, 2) := by decide +kernel
theorem d_BR_init_25 : decode b_BR_init 25 = .ok (.putfield 16, 3) := by decide +kernel
theorem d_BR_init_28 : decode b_BR_init 28 = .ok (.aload_n 0, 1) := by decide +kernel
theorem d_BR_init_29 : decode b_BR_init 29 = .ok (.bipush 40, 2) := by decide +kernel
theorem d_BR_init_31 : decode b_BR_init 31 = .ok (.newarray .int, 2) := by decide +kernel
theorem d_BR_init_33 : decode b_BR_init 33 = .ok (.putfield 19, 3) := by decide +kernel
theorem d_BR_init_36 : decode b_BR_init 36 = .ok (.aload_n 0, 1) := by decide +kernel
theorem d_BR_init_37 : decode b_BR_init 37 = .ok (.bipush 40, 2) := by decide +kernel
theorem d_BR_init_39 : decode b_BR_init 39 = .ok (.newarray .int, 2) := by decide +kernel
theorem d_BR_init_41 : decode b_BR_init 41 = .ok (.putfield 22, 3) := by decide +kernel
theorem d_BR_init_44 : decode b_BR_init 44 = .ok (.aload_n 0, 1) := by decide +kernel
theorem d_BR_init_45 : decode b_BR_init 45 = .ok (.bipush 40, 2) := by decide +kernel
theorem d_BR_init_47 : decode b_BR_init 47 = .ok (.newarray .int, 2) := by decide +kernel
theorem d_BR_init_49 : decode b_BR_init 49 = .ok (.putfield 25, 3) := by decide +kernel
theorem d_BR_init_52 : decode b_BR_init 52 = .ok (.aload_n 0, 1) := by decide +kernel
theorem d_BR_init_53 : decode b_BR_init 53 = .ok (.iconst 4, 1) := by decide +kernel
theorem d_BR_init_54 : decode b_BR_init 54 = .ok (.anewarray 28, 3) := by decide +kernel
theorem d_BR_init_57 : decode b_BR_init 57 = .ok (.putfield 30, 3) := by decide +kernel
theorem d_BR_init_60 : decode b_BR_init 60 = .ok (.aload_n 0, 1) := by decide +kernel
theorem d_BR_init_61 : decode b_BR_init 61 = .ok (.new 34, 3) := by decide +kernel
theorem d_BR_init_64 : decode b_BR_init 64 = .ok (.dup, 1) := by decide +kernel
theorem d_BR_init_65 : decode b_BR_init 65 = .ok (.invokespecial 36, 3) := by decide +kernel
theorem d_BR_init_68 : decode b_BR_init 68 = .ok (.putfield 37, 3) := by decide +kernel
theorem d_BR_init_71 : decode b_BR_init 71 = .ok (.iconst 0, 1) := by decide +kernel
theorem d_BR_init_72 : decode b_BR_init 72 = .ok (.istore_n 1, 1) := by decide +kernel
theorem d_BR_init_73 : decode b_BR_init 73 = .ok (.iload_n 1, 1) := by decide +kernel
theorem d_BR_init_74 : decode b_BR_init 74 = .ok (.iconst 4, 1) := by decide +kernel
theorem d_BR_init_75 : decode b_BR_init 75 = .ok (.if_icmp .ge 22, 3) := by decide +kernel
theorem d_BR_init_78 : decode b_BR_init 78 = .ok (.aload_n 0, 1) := by decide +kernel
theorem d_BR_init_79 : decode b_BR_init 79 = .ok (.getfield 30, 3) := by decide +kernel
theorem d_BR_init_82 : decode b_BR_init 82 = .ok (.iload_n 1, 1) := by decide +kernel
theorem d_BR_init_83 : decode b_BR_init 83 = .ok (.new 28, 3) := by decide +kernel
theorem d_BR_init_86 : decode b_BR_init 86 = .ok (.dup, 1) := by decide +kernel
theorem d_BR_init_87 : decode b_BR_init 87 = .ok (.invokespecial 41, 3) := by decide +kernel
theorem d_BR_init_90 : decode b_BR_init 90 = .ok (.aastore, 1) := by decide +kernel
theorem d_BR_init_91 : decode b_BR_init 91 = .ok (.iinc 1 1, 3) := by decide +kernel
theorem d_BR_init_94 : decode b_BR_init 94 = .ok (.goto (-21), 3) := by decide +kernel
theorem d_BR_init_97 : decode b_BR_init 97 = .ok (.return_, 1) := by decide +kernel
theorem d_BR_moisture_0 : decode b_BR_moisture 0 = .ok (.iload_n 1, 1) := by decide +kernel
theorem d_BR_moisture_1 : decode b_BR_moisture 1 = .ok (.invokestatic 42, 3) := by decide +kernel
theorem d_BR_moisture_4 : decode b_BR_moisture 4 = .ok (.iload_n 2, 1) := by decide +kernel
theorem d_BR_moisture_5 : decode b_BR_moisture 5 = .ok (.iconst 0, 1) := by decide +kernel
theorem d_BR_moisture_6 : decode b_BR_moisture 6 = .ok (.sipush 900, 3) := by decide +kernel
theorem d_BR_moisture_9 : decode b_BR_moisture 9 = .ok (.invokestatic 46, 3) := by decide +kernel
theorem d_BR_moisture_12 : decode b_BR_moisture 12 = .ok (.aload_n 0, 1) := by decide +kernel
theorem d_BR_moisture_13 : decode b_BR_moisture 13 = .ok (.getfield 9, 3) := by decide +kernel
theorem d_BR_moisture_16 : decode b_BR_moisture 16 = .ok (.iload_n 1, 1) := by decide +kernel
theorem d_BR_moisture_17 : decode b_BR_moisture 17 = .ok (.iload_n 2, 1) := by decide +kernel
theorem d_BR_moisture_18 : decode b_BR_moisture 18 = .ok (.iastore, 1) := by decide +kernel
theorem d_BR_moisture_19 : decode b_BR_moisture 19 = .ok (.return_, 1) := by decide +kernel
theorem d_BR_element_0 : decode b_BR_element 0 = .ok (.iload_n 1, 1) := by decide +kernel
theorem d_BR_element_1 : decode b_BR_element 1 = .ok (.invokestatic 42, 3) := by decide +kernel
theorem d_BR_element_4 : decode b_BR_element 4 = .ok (.iload_n 2, 1) := by decide +kernel
theorem d_BR_element_5 : decode b_BR_element 5 = .ok (.invokestatic 50, 3) := by decide +kernel
theorem d_BR_element_8 : decode b_BR_element 8 = .ok (.iload_n 3, 1) := by decide +kernel
theorem d_BR_element_9 : decode b_BR_element 9 = .ok (.iconst 0, 1) := by decide +kernel
theorem d_BR_element_10 : decode b_BR_element 10 = .ok (.sipush 10000, 3) := by decide +kernel
theorem d_BR_element_13 : decode b_BR_element 13 = .ok (.invokestatic 46, 3) := by decide +kernel
theorem d_BR_element_16 : decode b_BR_element 16 = .ok (.aload_n 0, 1) := by decide +kernel
theorem d_BR_element_17 : decode b_BR_element 17 = .ok (.getfield 13, 3) := by decide +kernel
theorem d_BR_element_20 : decode b_BR_element 20 = .ok (.iload_n 1, 1) := by decide +kernel
theorem d_BR_element_21 : decode b_BR_element 21 = .ok (.iconst 4, 1) := by decide +kernel
theorem d_BR_element_22 : decode b_BR_element 22 = .ok (.imul, 1) := by decide +kernel
theorem d_BR_element_23 : decode b_BR_element 23 = .ok (.iload_n 2, 1) := by decide +kernel
theorem d_BR_element_24 : decode b_BR_element 24 = .ok (.iadd, 1) := by decide +kernel
theorem d_BR_element_25 : decode b_BR_element 25 = .ok (.iload_n 3, 1) := by decide +kernel
theorem d_BR_element_26 : decode b_BR_element 26 = .ok (.iastore, 1) := by decide +kernel
theorem d_BR_element_27 : decode b_BR_element 27 = .ok (.return_, 1) := by decide +kernel
theorem d_BR_ship_0 : decode b_BR_ship 0 = .ok (.iload_n 2, 1) := by decide +kernel
theorem d_BR_ship_1 : decode b_BR_ship 1 = .ok (.invokestatic 42, 3) := by decide +kernel
theorem d_BR_ship_4 : decode b_BR_ship 4 = .ok (.aload_n 0, 1) := by decide +kernel
theorem d_BR_ship_5 : decode b_BR_ship 5 = .ok (.getfield 53, 3) := by decide +kernel
theorem d_BR_ship_8 : decode b_BR_ship 8 = .ok (.bipush 40, 2) := by decide +kernel
theorem d_BR_ship_10 : decode b_BR_ship 10 = .ok (.if_icmp .lt 13, 3) := by decide +kernel
theorem d_BR_ship_13 : decode b_BR_ship 13 = .ok (.new 57, 3) := by decide +kernel
theorem d_BR_ship_16 : decode b_BR_ship 16 = .ok (.dup, 1) := by decide +kernel
theorem d_BR_ship_17 : decode b_BR_ship 17 = .ok (.ldc 59, 2) := by decide +kernel
theorem d_BR_ship_19 : decode b_BR_ship 19 = .ok (.invokespecial 61, 3) := by decide +kernel
theorem d_BR_ship_22 : decode b_BR_ship 22 = .ok (.athrow, 1) := by decide +kernel
theorem d_BR_ship_23 : decode b_BR_ship 23 = .ok (.iload_n 1, 1) := by decide +kernel
theorem d_BR_ship_24 : decode b_BR_ship 24 = .ok (.aload_n 0, 1) := by decide +kernel
theorem d_BR_ship_25 : decode b_BR_ship 25 = .ok (.getfield 64, 3) := by decide +kernel
theorem d_BR_ship_28 : decode b_BR_ship 28 = .ok (.sipush 9999, 3) := by decide +kernel
theorem d_BR_ship_31 : decode b_BR_ship 31 = .ok (.invokestatic 46, 3) := by decide +kernel
theorem d_BR_ship_34 : decode b_BR_ship 34 = .ok (.iload_n 3, 1) := by decide +kernel
theorem d_BR_ship_35 : decode b_BR_ship 35 = .ok (.iconst 1, 1) := by decide +kernel
theorem d_BR_ship_36 : decode b_BR_ship 36 = .ok (.sipush 1000, 3) := by decide +kernel
theorem d_BR_ship_39 : decode b_BR_ship 39 = .ok (.invokestatic 46, 3) := by decide +kernel
theorem d_BR_ship_42 : decode b_BR_ship 42 = .ok (.iload 4, 2) := by decide +kernel
theorem d_BR_ship_44 : decode b_BR_ship 44 = .ok (.iconst 0, 1) := by decide +kernel
theorem d_BR_ship_45 : decode b_BR_ship 45 = .ok (.sipush 999, 3) := by decide +kernel
theorem d_BR_ship_48 : decode b_BR_ship 48 = .ok (.invokestatic 46, 3) := by decide +kernel
theorem d_BR_ship_51 : decode b_BR_ship 51 = .ok (.aload_n 0, 1) := by decide +kernel
theorem d_BR_ship_52 : decode b_BR_ship 52 = .ok (.getfield 53, 3) := by decide +kernel
theorem d_BR_ship_55 : decode b_BR_ship 55 = .ok (.istore 5, 2) := by decide +kernel
theorem d_BR_ship_57 : decode b_BR_ship 57 = .ok (.aload_n 0, 1) := by decide +kernel
theorem d_BR_ship_58 : decode b_BR_ship 58 = .ok (.getfield 19, 3) := by decide +kernel
theorem d_BR_ship_61 : decode b_BR_ship 61 = .ok (.iload 5, 2) := by decide +kernel
theorem d_BR_ship_63 : decode b_BR_ship 63 = .ok (.iload_n 1, 1) := by decide +kernel
theorem d_BR_ship_64 : decode b_BR_ship 64 = .ok (.iastore, 1) := by decide +kernel
theorem d_BR_ship_65 : decode b_BR_ship 65 = .ok (.aload_n 0, 1) := by decide +kernel
theorem d_BR_ship_66 : decode b_BR_ship 66 = .ok (.getfield 22, 3) := by decide +kernel
theorem d_BR_ship_69 : decode b_BR_ship 69 = .ok (.iload 5, 2) := by decide +kernel
theorem d_BR_ship_71 : decode b_BR_ship 71 = .ok (.iload_n 2, 1) := by decide +kernel
theorem d_BR_ship_72 : decode b_BR_ship 72 = .ok (.iastore, 1) := by decide +kernel
theorem d_BR_ship_73 : decode b_BR_ship 73 = .ok (.aload_n 0, 1) := by decide +kernel
theorem d_BR_ship_74 : decode b_BR_ship 74 = .ok (.getfield 25, 3) := by decide +kernel
theorem d_BR_ship_77 : decode b_BR_ship 77 = .ok (.iload 5, 2) := by decide +kernel
theorem d_BR_ship_79 : decode b_BR_ship 79 = .ok (.iload_n 3, 1) := by decide +kernel
theorem d_BR_ship_80 : decode b_BR_ship 80 = .ok (.iload_n 3, 1) := by decide +kernel
theorem d_BR_ship_81 : decode b_BR_ship 81 = .ok (.iload 4, 2) := by decide +kernel
theorem d_BR_ship_83 : decode b_BR_ship 83 = .ok (.invokestatic 67, 3) := by decide +kernel
theorem d_BR_ship_86 : decode b_BR_ship 86 = .ok (.isub, 1) := by decide +kernel
theorem d_BR_ship_87 : decode b_BR_ship 87 = .ok (.iastore, 1) := by decide +kernel
theorem d_BR_ship_88 : decode b_BR_ship 88 = .ok (.aload_n 0, 1) := by decide +kernel
theorem d_BR_ship_89 : decode b_BR_ship 89 = .ok (.iload 5, 2) := by decide +kernel
theorem d_BR_ship_91 : decode b_BR_ship 91 = .ok (.iconst 1, 1) := by decide +kernel
theorem d_BR_ship_92 : decode b_BR_ship 92 = .ok (.iadd, 1) := by decide +kernel
theorem d_BR_ship_93 : decode b_BR_ship 93 = .ok (.putfield 53, 3) := by decide +kernel
theorem d_BR_ship_96 : decode b_BR_ship 96 = .ok (.iload 5, 2) := by decide +kernel
theorem d_BR_ship_98 : decode b_BR_ship 98 = .ok (.ireturn, 1) := by decide +kernel
theorem d_BR_stock_0 : decode b_BR_stock 0 = .ok (.iload_n 1, 1) := by decide +kernel
theorem d_BR_stock_1 : decode b_BR_stock 1 = .ok (.invokestatic 42, 3) := by decide +kernel
theorem d_BR_stock_4 : decode b_BR_stock 4 = .ok (.aload_n 0, 1) := by decide +kernel
theorem d_BR_stock_5 : decode b_BR_stock 5 = .ok (.iload_n 1, 1) := by decide +kernel
theorem d_BR_stock_6 : decode b_BR_stock 6 = .ok (.invokevirtual 71, 3) := by decide +kernel
theorem d_BR_stock_9 : decode b_BR_stock 9 = .ok (.ireturn, 1) := by decide +kernel
theorem d_BR_pile_0 : decode b_BR_pile 0 = .ok (.aload_n 0, 1) := by decide +kernel
theorem d_BR_pile_1 : decode b_BR_pile 1 = .ok (.getfield 75, 3) := by decide +kernel
theorem d_BR_pile_4 : decode b_BR_pile 4 = .ok (.istore_n 2, 1) := by decide +kernel
theorem d_BR_pile_5 : decode b_BR_pile 5 = .ok (.iload_n 2, 1) := by decide +kernel
theorem d_BR_pile_6 : decode b_BR_pile 6 = .ok (.iconst 4, 1) := by decide +kernel
theorem d_BR_pile_7 : decode b_BR_pile 7 = .ok (.if_icmp .ge 12, 3) := by decide +kernel
theorem d_BR_pile_10 : decode b_BR_pile 10 = .ok (.aload_n 0, 1) := by decide +kernel
theorem d_BR_pile_11 : decode b_BR_pile 11 = .ok (.getfield 30, 3) := by decide +kernel
theorem d_BR_pile_14 : decode b_BR_pile 14 = .ok (.iload_n 2, 1) := by decide +kernel
theorem d_BR_pile_15 : decode b_BR_pile 15 = .ok (.aaload, 1) := by decide +kernel
theorem d_BR_pile_16 : decode b_BR_pile 16 = .ok (.goto 4, 3) := by decide +kernel
theorem d_BR_pile_19 : decode b_BR_pile 19 = .ok (.aconst_null, 1) := by decide +kernel
theorem d_BR_pile_20 : decode b_BR_pile 20 = .ok (.astore_n 3, 1) := by decide +kernel
theorem d_BR_pile_21 : decode b_BR_pile 21 = .ok (.aload_n 3, 1) := by decide +kernel
theorem d_BR_pile_22 : decode b_BR_pile 22 = .ok (.ifnonnull 13, 3) := by decide +kernel
theorem d_BR_pile_25 : decode b_BR_pile 25 = .ok (.new 57, 3) := by decide +kernel
theorem d_BR_pile_28 : decode b_BR_pile 28 = .ok (.dup, 1) := by decide +kernel
theorem d_BR_pile_29 : decode b_BR_pile 29 = .ok (.ldc 78, 2) := by decide +kernel
theorem d_BR_pile_31 : decode b_BR_pile 31 = .ok (.invokespecial 61, 3) := by decide +kernel
theorem d_BR_pile_34 : decode b_BR_pile 34 = .ok (.athrow, 1) := by decide +kernel
theorem d_BR_pile_35 : decode b_BR_pile 35 = .ok (.iload_n 1, 1) := by decide +kernel
theorem d_BR_pile_36 : decode b_BR_pile 36 = .ok (.iconst 1, 1) := by decide +kernel
theorem d_BR_pile_37 : decode b_BR_pile 37 = .ok (.ldc 80, 2) := by decide +kernel
theorem d_BR_pile_39 : decode b_BR_pile 39 = .ok (.invokestatic 46, 3) := by decide +kernel
theorem d_BR_pile_42 : decode b_BR_pile 42 = .ok (.aload_n 3, 1) := by decide +kernel
theorem d_BR_pile_43 : decode b_BR_pile 43 = .ok (.iload_n 1, 1) := by decide +kernel
theorem d_BR_pile_44 : decode b_BR_pile 44 = .ok (.putfield 81, 3) := by decide +kernel
theorem d_BR_pile_47 : decode b_BR_pile 47 = .ok (.aload_n 0, 1) := by decide +kernel
theorem d_BR_pile_48 : decode b_BR_pile 48 = .ok (.iload_n 2, 1) := by decide +kernel
theorem d_BR_pile_49 : decode b_BR_pile 49 = .ok (.iconst 1, 1) := by decide +kernel
theorem d_BR_pile_50 : decode b_BR_pile 50 = .ok (.iadd, 1) := by decide +kernel
theorem d_BR_pile_51 : decode b_BR_pile 51 = .ok (.putfield 75, 3) := by decide +kernel
theorem d_BR_pile_54 : decode b_BR_pile 54 = .ok (.iload_n 2, 1) := by decide +kernel
theorem d_BR_pile_55 : decode b_BR_pile 55 = .ok (.ireturn, 1) := by decide +kernel
theorem d_BR_lay_0 : decode b_BR_lay 0 = .ok (.aload_n 0, 1) := by decide +kernel
theorem d_BR_lay_1 : decode b_BR_lay 1 = .ok (.iload_n 1, 1) := by decide +kernel
theorem d_BR_lay_2 : decode b_BR_lay 2 = .ok (.invokevirtual 84, 3) := by decide +kernel
theorem d_BR_lay_5 : decode b_BR_lay 5 = .ok (.astore 4, 2) := by decide +kernel
theorem d_BR_lay_7 : decode b_BR_lay 7 = .ok (.iload_n 2, 1) := by decide +kernel
theorem d_BR_lay_8 : decode b_BR_lay 8 = .ok (.invokestatic 42, 3) := by decide +kernel
theorem d_BR_lay_11 : decode b_BR_lay 11 = .ok (.aload 4, 2) := by decide +kernel
theorem d_BR_lay_13 : decode b_BR_lay 13 = .ok (.getfield 88, 3) := by decide +kernel
theorem d_BR_lay_16 : decode b_BR_lay 16 = .ok (.ifCond .le 13, 3) := by decide +kernel
theorem d_BR_lay_19 : decode b_BR_lay 19 = .ok (.new 57, 3) := by decide +kernel
theorem d_BR_lay_22 : decode b_BR_lay 22 = .ok (.dup, 1) := by decide +kernel
theorem d_BR_lay_23 : decode b_BR_lay 23 = .ok (.ldc 91, 2) := by decide +kernel
theorem d_BR_lay_25 : decode b_BR_lay 25 = .ok (.invokespecial 61, 3) := by decide +kernel
theorem d_BR_lay_28 : decode b_BR_lay 28 = .ok (.athrow, 1) := by decide +kernel
theorem d_BR_lay_29 : decode b_BR_lay 29 = .ok (.iload_n 3, 1) := by decide +kernel
theorem d_BR_lay_30 : decode b_BR_lay 30 = .ok (.iconst 1, 1) := by decide +kernel
theorem d_BR_lay_31 : decode b_BR_lay 31 = .ok (.sipush 1000, 3) := by decide +kernel
theorem d_BR_lay_34 : decode b_BR_lay 34 = .ok (.invokestatic 46, 3) := by decide +kernel
theorem d_BR_lay_37 : decode b_BR_lay 37 = .ok (.aload 4, 2) := by decide +kernel
theorem d_BR_lay_39 : decode b_BR_lay 39 = .ok (.getfield 93, 3) := by decide +kernel
theorem d_BR_lay_42 : decode b_BR_lay 42 = .ok (.bipush 20, 2) := by decide +kernel
theorem d_BR_lay_44 : decode b_BR_lay 44 = .ok (.if_icmp .lt 13, 3) := by decide +kernel
theorem d_BR_lay_47 : decode b_BR_lay 47 = .ok (.new 96, 3) := by decide +kernel
theorem d_BR_lay_50 : decode b_BR_lay 50 = .ok (.dup, 1) := by decide +kernel
theorem d_BR_lay_51 : decode b_BR_lay 51 = .ok (.ldc 98, 2) := by decide +kernel
theorem d_BR_lay_53 : decode b_BR_lay 53 = .ok (.invokespecial 100, 3) := by decide +kernel
theorem d_BR_lay_56 : decode b_BR_lay 56 = .ok (.athrow, 1) := by decide +kernel
theorem d_BR_lay_57 : decode b_BR_lay 57 = .ok (.aload_n 0, 1) := by decide +kernel
theorem d_BR_lay_58 : decode b_BR_lay 58 = .ok (.iload_n 2, 1) := by decide +kernel
theorem d_BR_lay_59 : decode b_BR_lay 59 = .ok (.invokevirtual 71, 3) := by decide +kernel
theorem d_BR_lay_62 : decode b_BR_lay 62 = .ok (.iload_n 3, 1) := by decide +kernel
theorem d_BR_lay_63 : decode b_BR_lay 63 = .ok (.if_icmp .ge 13, 3) := by decide +kernel
theorem d_BR_lay_66 : decode b_BR_lay 66 = .ok (.new 96, 3) := by decide +kernel
theorem d_BR_lay_69 : decode b_BR_lay 69 = .ok (.dup, 1) := by decide +kernel
theorem d_BR_lay_70 : decode b_BR_lay 70 = .ok (.ldc 101, 2) := by decide +kernel
theorem d_BR_lay_72 : decode b_BR_lay 72 = .ok (.invokespecial 100, 3) := by decide +kernel
theorem d_BR_lay_75 : decode b_BR_lay 75 = .ok (.athrow, 1) := by decide +kernel
theorem d_BR_lay_76 : decode b_BR_lay 76 = .ok (.aload 4, 2) := by decide +kernel
theorem d_BR_lay_78 : decode b_BR_lay 78 = .ok (.iload_n 3, 1) := by decide +kernel
theorem d_BR_lay_79 : decode b_BR_lay 79 = .ok (.sipush 1000, 3) := by decide +kernel
theorem d_BR_lay_82 : decode b_BR_lay 82 = .ok (.aload_n 0, 1) := by decide +kernel
theorem d_BR_lay_83 : decode b_BR_lay 83 = .ok (.getfield 9, 3) := by decide +kernel
theorem d_BR_lay_86 : decode b_BR_lay 86 = .ok (.iload_n 2, 1) := by decide +kernel
theorem d_BR_lay_87 : decode b_BR_lay 87 = .ok (.iaload, 1) := by decide +kernel
theorem d_BR_lay_88 : decode b_BR_lay 88 = .ok (.isub, 1) := by decide +kernel
theorem d_BR_lay_89 : decode b_BR_lay 89 = .ok (.imul, 1) := by decide +kernel
theorem d_BR_lay_90 : decode b_BR_lay 90 = .ok (.aload_n 0, 1) := by decide +kernel
theorem d_BR_lay_91 : decode b_BR_lay 91 = .ok (.getfield 13, 3) := by decide +kernel
theorem d_BR_lay_94 : decode b_BR_lay 94 = .ok (.iload_n 2, 1) := by decide +kernel
theorem d_BR_lay_95 : decode b_BR_lay 95 = .ok (.invokevirtual 103, 3) := by decide +kernel
theorem d_BR_lay_98 : decode b_BR_lay 98 = .ok (.aload_n 0, 1) := by decide +kernel
theorem d_BR_lay_99 : decode b_BR_lay 99 = .ok (.getfield 16, 3) := by decide +kernel
theorem d_BR_lay_102 : decode b_BR_lay 102 = .ok (.iload_n 2, 1) := by decide +kernel
theorem d_BR_lay_103 : decode b_BR_lay 103 = .ok (.dup2, 1) := by decide +kernel
theorem d_BR_lay_104 : decode b_BR_lay 104 = .ok (.iaload, 1) := by decide +kernel
theorem d_BR_lay_105 : decode b_BR_lay 105 = .ok (.iload_n 3, 1) := by decide +kernel
theorem d_BR_lay_106 : decode b_BR_lay 106 = .ok (.iadd, 1) := by decide +kernel
theorem d_BR_lay_107 : decode b_BR_lay 107 = .ok (.iastore, 1) := by decide +kernel
theorem d_BR_lay_108 : decode b_BR_lay 108 = .ok (.aload 4, 2) := by decide +kernel
theorem d_BR_lay_110 : decode b_BR_lay 110 = .ok (.getfield 107, 3) := by decide +kernel
theorem d_BR_lay_113 : decode b_BR_lay 113 = .ok (.ireturn, 1) := by decide +kernel
theorem d_BR_slice_0 : decode b_BR_slice 0 = .ok (.aload_n 0, 1) := by decide +kernel
theorem d_BR_slice_1 : decode b_BR_slice 1 = .ok (.iload_n 1, 1) := by decide +kernel
theorem d_BR_slice_2 : decode b_BR_slice 2 = .ok (.invokevirtual 84, 3) := by decide +kernel
theorem d_BR_slice_5 : decode b_BR_slice 5 = .ok (.astore_n 2, 1) := by decide +kernel
theorem d_BR_slice_6 : decode b_BR_slice 6 = .ok (.aload_n 2, 1) := by decide +kernel
theorem d_BR_slice_7 : decode b_BR_slice 7 = .ok (.getfield 93, 3) := by decide +kernel
theorem d_BR_slice_10 : decode b_BR_slice 10 = .ok (.ifCond .ne 13, 3) := by decide +kernel
theorem d_BR_slice_13 : decode b_BR_slice 13 = .ok (.new 57, 3) := by decide +kernel
theorem d_BR_slice_16 : decode b_BR_slice 16 = .ok (.dup, 1) := by decide +kernel
theorem d_BR_slice_17 : decode b_BR_slice 17 = .ok (.ldc 110, 2) := by decide +kernel
theorem d_BR_slice_19 : decode b_BR_slice 19 = .ok (.invokespecial 61, 3) := by decide +kernel
theorem d_BR_slice_22 : decode b_BR_slice 22 = .ok (.athrow, 1) := by decide +kernel
theorem d_BR_slice_23 : decode b_BR_slice 23 = .ok (.aload_n 2, 1) := by decide +kernel
theorem d_BR_slice_24 : decode b_BR_slice 24 = .ok (.getfield 88, 3) := by decide +kernel
theorem d_BR_slice_27 : decode b_BR_slice 27 = .ok (.aload_n 2, 1) := by decide +kernel
theorem d_BR_slice_28 : decode b_BR_slice 28 = .ok (.getfield 81, 3) := by decide +kernel
theorem d_BR_slice_31 : decode b_BR_slice 31 = .ok (.if_icmp .lt 13, 3) := by decide +kernel
theorem d_BR_slice_34 : decode b_BR_slice 34 = .ok (.new 57, 3) := by decide +kernel
theorem d_BR_slice_37 : decode b_BR_slice 37 = .ok (.dup, 1) := by decide +kernel
theorem d_BR_slice_38 : decode b_BR_slice 38 = .ok (.ldc 112, 2) := by decide +kernel
theorem d_BR_slice_40 : decode b_BR_slice 40 = .ok (.invokespecial 61, 3) := by decide +kernel
theorem d_BR_slice_43 : decode b_BR_slice 43 = .ok (.athrow, 1) := by decide +kernel
theorem d_BR_slice_44 : decode b_BR_slice 44 = .ok (.aload_n 2, 1) := by decide +kernel
theorem d_BR_slice_45 : decode b_BR_slice 45 = .ok (.invokevirtual 114, 3) := by decide +kernel
theorem d_BR_slice_48 : decode b_BR_slice 48 = .ok (.aload_n 2, 1) := by decide +kernel
theorem d_BR_slice_49 : decode b_BR_slice 49 = .ok (.getfield 117, 3) := by decide +kernel
theorem d_BR_slice_52 : decode b_BR_slice 52 = .ok (.ireturn, 1) := by decide +kernel
theorem d_BR_share_0 : decode b_BR_share 0 = .ok (.aload_n 0, 1) := by decide +kernel
theorem d_BR_share_1 : decode b_BR_share 1 = .ok (.iload_n 1, 1) := by decide +kernel
theorem d_BR_share_2 : decode b_BR_share 2 = .ok (.invokevirtual 84, 3) := by decide +kernel
theorem d_BR_share_5 : decode b_BR_share 5 = .ok (.astore 4, 2) := by decide +kernel
theorem d_BR_share_7 : decode b_BR_share 7 = .ok (.iload_n 2, 1) := by decide +kernel
theorem d_BR_share_8 : decode b_BR_share 8 = .ok (.invokestatic 50, 3) := by decide +kernel
theorem d_BR_share_11 : decode b_BR_share 11 = .ok (.iload_n 3, 1) := by decide +kernel
theorem d_BR_share_12 : decode b_BR_share 12 = .ok (.invokestatic 120, 3) := by decide +kernel
theorem d_BR_share_15 : decode b_BR_share 15 = .ok (.aload 4, 2) := by decide +kernel
theorem d_BR_share_17 : decode b_BR_share 17 = .ok (.invokestatic 123, 3) := by decide +kernel
theorem d_BR_share_20 : decode b_BR_share 20 = .ok (.aload 4, 2) := by decide +kernel
theorem d_BR_share_22 : decode b_BR_share 22 = .ok (.getfield 117, 3) := by decide +kernel
theorem d_BR_share_25 : decode b_BR_share 25 = .ok (.ifCond .ne 13, 3) := by decide +kernel
theorem d_BR_share_28 : decode b_BR_share 28 = .ok (.new 96, 3) := by decide +kernel
theorem d_BR_share_31 : decode b_BR_share 31 = .ok (.dup, 1) := by decide +kernel
theorem d_BR_share_32 : decode b_BR_share 32 = .ok (.ldc 127, 2) := by decide +kernel
theorem d_BR_share_34 : decode b_BR_share 34 = .ok (.invokespecial 100, 3) := by decide +kernel
theorem d_BR_share_37 : decode b_BR_share 37 = .ok (.athrow, 1) := by decide +kernel
theorem d_BR_share_38 : decode b_BR_share 38 = .ok (.aload 4, 2) := by decide +kernel
theorem d_BR_share_40 : decode b_BR_share 40 = .ok (.getfield 129, 3) := by decide +kernel
theorem d_BR_share_43 : decode b_BR_share 43 = .ok (.iload_n 2, 1) := by decide +kernel
theorem d_BR_share_44 : decode b_BR_share 44 = .ok (.laload, 1) := by decide +kernel
theorem d_BR_share_45 : decode b_BR_share 45 = .ok (.aload 4, 2) := by decide +kernel
theorem d_BR_share_47 : decode b_BR_share 47 = .ok (.getfield 117, 3) := by decide +kernel
theorem d_BR_share_50 : decode b_BR_share 50 = .ok (.i2l, 1) := by decide +kernel
theorem d_BR_share_51 : decode b_BR_share 51 = .ok (.iload_n 3, 1) := by decide +kernel
theorem d_BR_share_52 : decode b_BR_share 52 = .ok (.invokestatic 133, 3) := by decide +kernel
theorem d_BR_share_55 : decode b_BR_share 55 = .ok (.lreturn, 1) := by decide +kernel
theorem d_BR_basicity_0 : decode b_BR_basicity 0 = .ok (.aload_n 0, 1) := by decide +kernel
theorem d_BR_basicity_1 : decode b_BR_basicity 1 = .ok (.iload_n 1, 1) := by decide +kernel
theorem d_BR_basicity_2 : decode b_BR_basicity 2 = .ok (.invokevirtual 84, 3) := by decide +kernel
theorem d_BR_basicity_5 : decode b_BR_basicity 5 = .ok (.astore_n 3, 1) := by decide +kernel
theorem d_BR_basicity_6 : decode b_BR_basicity 6 = .ok (.iload_n 2, 1) := by decide +kernel
theorem d_BR_basicity_7 : decode b_BR_basicity 7 = .ok (.invokestatic 120, 3) := by decide +kernel
theorem d_BR_basicity_10 : decode b_BR_basicity 10 = .ok (.aload_n 3, 1) := by decide +kernel
theorem d_BR_basicity_11 : decode b_BR_basicity 11 = .ok (.invokestatic 123, 3) := by decide +kernel
theorem d_BR_basicity_14 : decode b_BR_basicity 14 = .ok (.aload_n 3, 1) := by decide +kernel
theorem d_BR_basicity_15 : decode b_BR_basicity 15 = .ok (.getfield 129, 3) := by decide +kernel
theorem d_BR_basicity_18 : decode b_BR_basicity 18 = .ok (.iconst 1, 1) := by decide +kernel
theorem d_BR_basicity_19 : decode b_BR_basicity 19 = .ok (.laload, 1) := by decide +kernel
theorem d_BR_basicity_20 : decode b_BR_basicity 20 = .ok (.lconst 0, 1) := by decide +kernel
theorem d_BR_basicity_21 : decode b_BR_basicity 21 = .ok (.lcmp, 1) := by decide +kernel
theorem d_BR_basicity_22 : decode b_BR_basicity 22 = .ok (.ifCond .ne 13, 3) := by decide +kernel
theorem d_BR_basicity_25 : decode b_BR_basicity 25 = .ok (.new 96, 3) := by decide +kernel
theorem d_BR_basicity_28 : decode b_BR_basicity 28 = .ok (.dup, 1) := by decide +kernel
theorem d_BR_basicity_29 : decode b_BR_basicity 29 = .ok (.ldc 137, 2) := by decide +kernel
theorem d_BR_basicity_31 : decode b_BR_basicity 31 = .ok (.invokespecial 100, 3) := by decide +kernel
theorem d_BR_basicity_34 : decode b_BR_basicity 34 = .ok (.athrow, 1) := by decide +kernel
theorem d_BR_basicity_35 : decode b_BR_basicity 35 = .ok (.aload_n 3, 1) := by decide +kernel
theorem d_BR_basicity_36 : decode b_BR_basicity 36 = .ok (.getfield 129, 3) := by decide +kernel
theorem d_BR_basicity_39 : decode b_BR_basicity 39 = .ok (.iconst 0, 1) := by decide +kernel
theorem d_BR_basicity_40 : decode b_BR_basicity 40 = .ok (.laload, 1) := by decide +kernel
theorem d_BR_basicity_41 : decode b_BR_basicity 41 = .ok (.aload_n 3, 1) := by decide +kernel
theorem d_BR_basicity_42 : decode b_BR_basicity 42 = .ok (.getfield 129, 3) := by decide +kernel
theorem d_BR_basicity_45 : decode b_BR_basicity 45 = .ok (.iconst 1, 1) := by decide +kernel
theorem d_BR_basicity_46 : decode b_BR_basicity 46 = .ok (.laload, 1) := by decide +kernel
theorem d_BR_basicity_47 : decode b_BR_basicity 47 = .ok (.iload_n 2, 1) := by decide +kernel
theorem d_BR_basicity_48 : decode b_BR_basicity 48 = .ok (.invokestatic 133, 3) := by decide +kernel
theorem d_BR_basicity_51 : decode b_BR_basicity 51 = .ok (.lreturn, 1) := by decide +kernel
theorem d_BR_spread_0 : decode b_BR_spread 0 = .ok (.aload_n 0, 1) := by decide +kernel
theorem d_BR_spread_1 : decode b_BR_spread 1 = .ok (.iload_n 1, 1) := by decide +kernel
theorem d_BR_spread_2 : decode b_BR_spread 2 = .ok (.invokevirtual 84, 3) := by decide +kernel
theorem d_BR_spread_5 : decode b_BR_spread 5 = .ok (.astore 4, 2) := by decide +kernel
theorem d_BR_spread_7 : decode b_BR_spread 7 = .ok (.iload_n 2, 1) := by decide +kernel
theorem d_BR_spread_8 : decode b_BR_spread 8 = .ok (.invokestatic 50, 3) := by decide +kernel
theorem d_BR_spread_11 : decode b_BR_spread 11 = .ok (.iload_n 3, 1) := by decide +kernel
theorem d_BR_spread_12 : decode b_BR_spread 12 = .ok (.invokestatic 120, 3) := by decide +kernel
theorem d_BR_spread_15 : decode b_BR_spread 15 = .ok (.aload 4, 2) := by decide +kernel
theorem d_BR_spread_17 : decode b_BR_spread 17 = .ok (.getfield 139, 3) := by decide +kernel
theorem d_BR_spread_20 : decode b_BR_spread 20 = .ok (.ifCond .ne 13, 3) := by decide +kernel
theorem d_BR_spread_23 : decode b_BR_spread 23 = .ok (.new 57, 3) := by decide +kernel
theorem d_BR_spread_26 : decode b_BR_spread 26 = .ok (.dup, 1) := by decide +kernel
theorem d_BR_spread_27 : decode b_BR_spread 27 = .ok (.ldc 142, 2) := by decide +kernel
theorem d_BR_spread_29 : decode b_BR_spread 29 = .ok (.invokespecial 61, 3) := by decide +kernel
theorem d_BR_spread_32 : decode b_BR_spread 32 = .ok (.athrow, 1) := by decide +kernel
theorem d_BR_spread_33 : decode b_BR_spread 33 = .ok (.aload 4, 2) := by decide +kernel
theorem d_BR_spread_35 : decode b_BR_spread 35 = .ok (.iload_n 2, 1) := by decide +kernel
theorem d_BR_spread_36 : decode b_BR_spread 36 = .ok (.invokevirtual 144, 3) := by decide +kernel
theorem d_BR_spread_39 : decode b_BR_spread 39 = .ok (.aload 4, 2) := by decide +kernel
theorem d_BR_spread_41 : decode b_BR_spread 41 = .ok (.iload_n 2, 1) := by decide +kernel
theorem d_BR_spread_42 : decode b_BR_spread 42 = .ok (.invokevirtual 148, 3) := by decide +kernel
theorem d_BR_spread_45 : decode b_BR_spread 45 = .ok (.iload_n 3, 1) := by decide +kernel
theorem d_BR_spread_46 : decode b_BR_spread 46 = .ok (.invokestatic 133, 3) := by decide +kernel
theorem d_BR_spread_49 : decode b_BR_spread 49 = .ok (.lreturn, 1) := by decide +kernel
theorem d_BR_pileAt_0 : decode b_BR_pileAt 0 = .ok (.aload_n 0, 1) := by decide +kernel
theorem d_BR_pileAt_1 : decode b_BR_pileAt 1 = .ok (.iload_n 1, 1) := by decide +kernel
theorem d_BR_pileAt_2 : decode b_BR_pileAt 2 = .ok (.invokevirtual 84, 3) := by decide +kernel
theorem d_BR_pileAt_5 : decode b_BR_pileAt 5 = .ok (.astore_n 3, 1) := by decide +kernel
theorem d_BR_pileAt_6 : decode b_BR_pileAt 6 = .ok (.iload_n 2, 1) := by decide +kernel
theorem d_BR_pileAt_7 : decode b_BR_pileAt 7 = .ok (.tableswitch 58 0 4 #[33, 38, 43, 48, 53], 33) := by decide +kernel
theorem d_BR_pileAt_40 : decode b_BR_pileAt 40 = .ok (.aload_n 3, 1) := by decide +kernel
theorem d_BR_pileAt_41 : decode b_BR_pileAt 41 = .ok (.getfield 81, 3) := by decide +kernel
theorem d_BR_pileAt_44 : decode b_BR_pileAt 44 = .ok (.ireturn, 1) := by decide +kernel
theorem d_BR_pileAt_45 : decode b_BR_pileAt 45 = .ok (.aload_n 3, 1) := by decide +kernel
theorem d_BR_pileAt_46 : decode b_BR_pileAt 46 = .ok (.getfield 88, 3) := by decide +kernel
theorem d_BR_pileAt_49 : decode b_BR_pileAt 49 = .ok (.ireturn, 1) := by decide +kernel
theorem d_BR_pileAt_50 : decode b_BR_pileAt 50 = .ok (.aload_n 3, 1) := by decide +kernel
theorem d_BR_pileAt_51 : decode b_BR_pileAt 51 = .ok (.getfield 93, 3) := by decide +kernel
theorem d_BR_pileAt_54 : decode b_BR_pileAt 54 = .ok (.ireturn, 1) := by decide +kernel
theorem d_BR_pileAt_55 : decode b_BR_pileAt 55 = .ok (.aload_n 3, 1) := by decide +kernel
theorem d_BR_pileAt_56 : decode b_BR_pileAt 56 = .ok (.getfield 107, 3) := by decide +kernel
theorem d_BR_pileAt_59 : decode b_BR_pileAt 59 = .ok (.ireturn, 1) := by decide +kernel
theorem d_BR_pileAt_60 : decode b_BR_pileAt 60 = .ok (.aload_n 3, 1) := by decide +kernel
theorem d_BR_pileAt_61 : decode b_BR_pileAt 61 = .ok (.getfield 139, 3) := by decide +kernel
theorem d_BR_pileAt_64 : decode b_BR_pileAt 64 = .ok (.ireturn, 1) := by decide +kernel
theorem d_BR_pileAt_65 : decode b_BR_pileAt 65 = .ok (.new 151, 3) := by decide +kernel
theorem d_BR_pileAt_68 : decode b_BR_pileAt 68 = .ok (.dup, 1) := by decide +kernel
theorem d_BR_pileAt_69 : decode b_BR_pileAt 69 = .ok (.ldc 153, 2) := by decide +kernel
theorem d_BR_pileAt_71 : decode b_BR_pileAt 71 = .ok (.invokespecial 155, 3) := by decide +kernel
theorem d_BR_pileAt_74 : decode b_BR_pileAt 74 = .ok (.athrow, 1) := by decide +kernel
theorem d_BR_mix_0 : decode b_BR_mix 0 = .ok (.iload_n 1, 1) := by decide +kernel
theorem d_BR_mix_1 : decode b_BR_mix 1 = .ok (.invokestatic 42, 3) := by decide +kernel
theorem d_BR_mix_4 : decode b_BR_mix 4 = .ok (.iload_n 2, 1) := by decide +kernel
theorem d_BR_mix_5 : decode b_BR_mix 5 = .ok (.invokestatic 42, 3) := by decide +kernel
theorem d_BR_mix_8 : decode b_BR_mix 8 = .ok (.iload_n 1, 1) := by decide +kernel
theorem d_BR_mix_9 : decode b_BR_mix 9 = .ok (.iload_n 2, 1) := by decide +kernel
theorem d_BR_mix_10 : decode b_BR_mix 10 = .ok (.if_icmp .ne 13, 3) := by decide +kernel
theorem d_BR_mix_13 : decode b_BR_mix 13 = .ok (.new 151, 3) := by decide +kernel
theorem d_BR_mix_16 : decode b_BR_mix 16 = .ok (.dup, 1) := by decide +kernel
theorem d_BR_mix_17 : decode b_BR_mix 17 = .ok (.ldc 156, 2) := by decide +kernel
theorem d_BR_mix_19 : decode b_BR_mix 19 = .ok (.invokespecial 155, 3) := by decide +kernel
theorem d_BR_mix_22 : decode b_BR_mix 22 = .ok (.athrow, 1) := by decide +kernel
theorem d_BR_mix_23 : decode b_BR_mix 23 = .ok (.iload_n 3, 1) := by decide +kernel
theorem d_BR_mix_24 : decode b_BR_mix 24 = .ok (.invokestatic 50, 3) := by decide +kernel
theorem d_BR_mix_27 : decode b_BR_mix 27 = .ok (.iload 5, 2) := by decide +kernel
theorem d_BR_mix_29 : decode b_BR_mix 29 = .ok (.invokestatic 120, 3) := by decide +kernel
theorem d_BR_mix_32 : decode b_BR_mix 32 = .ok (.iload 4, 2) := by decide +kernel
theorem d_BR_mix_34 : decode b_BR_mix 34 = .ok (.iconst 0, 1) := by decide +kernel
theorem d_BR_mix_35 : decode b_BR_mix 35 = .ok (.sipush 10000, 3) := by decide +kernel
theorem d_BR_mix_38 : decode b_BR_mix 38 = .ok (.invokestatic 46, 3) := by decide +kernel
theorem d_BR_mix_41 : decode b_BR_mix 41 = .ok (.aload_n 0, 1) := by decide +kernel
theorem d_BR_mix_42 : decode b_BR_mix 42 = .ok (.getfield 13, 3) := by decide +kernel
theorem d_BR_mix_45 : decode b_BR_mix 45 = .ok (.iload_n 1, 1) := by decide +kernel
theorem d_BR_mix_46 : decode b_BR_mix 46 = .ok (.iconst 4, 1) := by decide +kernel
theorem d_BR_mix_47 : decode b_BR_mix 47 = .ok (.imul, 1) := by decide +kernel
theorem d_BR_mix_48 : decode b_BR_mix 48 = .ok (.iload_n 3, 1) := by decide +kernel
theorem d_BR_mix_49 : decode b_BR_mix 49 = .ok (.iadd, 1) := by decide +kernel
theorem d_BR_mix_50 : decode b_BR_mix 50 = .ok (.iaload, 1) := by decide +kernel
theorem d_BR_mix_51 : decode b_BR_mix 51 = .ok (.istore 6, 2) := by decide +kernel
theorem d_BR_mix_53 : decode b_BR_mix 53 = .ok (.aload_n 0, 1) := by decide +kernel
theorem d_BR_mix_54 : decode b_BR_mix 54 = .ok (.getfield 13, 3) := by decide +kernel
theorem d_BR_mix_57 : decode b_BR_mix 57 = .ok (.iload_n 2, 1) := by decide +kernel
theorem d_BR_mix_58 : decode b_BR_mix 58 = .ok (.iconst 4, 1) := by decide +kernel
theorem d_BR_mix_59 : decode b_BR_mix 59 = .ok (.imul, 1) := by decide +kernel
theorem d_BR_mix_60 : decode b_BR_mix 60 = .ok (.iload_n 3, 1) := by decide +kernel
theorem d_BR_mix_61 : decode b_BR_mix 61 = .ok (.iadd, 1) := by decide +kernel
theorem d_BR_mix_62 : decode b_BR_mix 62 = .ok (.iaload, 1) := by decide +kernel
theorem d_BR_mix_63 : decode b_BR_mix 63 = .ok (.istore 7, 2) := by decide +kernel
theorem d_BR_mix_65 : decode b_BR_mix 65 = .ok (.iload 6, 2) := by decide +kernel
theorem d_BR_mix_67 : decode b_BR_mix 67 = .ok (.iload 7, 2) := by decide +kernel
theorem d_BR_mix_69 : decode b_BR_mix 69 = .ok (.if_icmp .eq 27, 3) := by decide +kernel
theorem d_BR_mix_72 : decode b_BR_mix 72 = .ok (.iload 4, 2) := by decide +kernel
theorem d_BR_mix_74 : decode b_BR_mix 74 = .ok (.iload 6, 2) := by decide +kernel
theorem d_BR_mix_76 : decode b_BR_mix 76 = .ok (.iload 7, 2) := by decide +kernel
theorem d_BR_mix_78 : decode b_BR_mix 78 = .ok (.invokestatic 158, 3) := by decide +kernel
theorem d_BR_mix_81 : decode b_BR_mix 81 = .ok (.if_icmp .lt 15, 3) := by decide +kernel
theorem d_BR_mix_84 : decode b_BR_mix 84 = .ok (.iload 4, 2) := by decide +kernel
theorem d_BR_mix_86 : decode b_BR_mix 86 = .ok (.iload 6, 2) := by decide +kernel
theorem d_BR_mix_88 : decode b_BR_mix 88 = .ok (.iload 7, 2) := by decide +kernel
theorem d_BR_mix_90 : decode b_BR_mix 90 = .ok (.invokestatic 163, 3) := by decide +kernel
theorem d_BR_mix_93 : decode b_BR_mix 93 = .ok (.if_icmp .le 13, 3) := by decide +kernel
theorem d_BR_mix_96 : decode b_BR_mix 96 = .ok (.new 96, 3) := by decide +kernel
theorem d_BR_mix_99 : decode b_BR_mix 99 = .ok (.dup, 1) := by decide +kernel
theorem d_BR_mix_100 : decode b_BR_mix 100 = .ok (.ldc 166, 2) := by decide +kernel
theorem d_BR_mix_102 : decode b_BR_mix 102 = .ok (.invokespecial 100, 3) := by decide +kernel
theorem d_BR_mix_105 : decode b_BR_mix 105 = .ok (.athrow, 1) := by decide +kernel
theorem d_BR_mix_106 : decode b_BR_mix 106 = .ok (.iload 4, 2) := by decide +kernel
theorem d_BR_mix_108 : decode b_BR_mix 108 = .ok (.iload 7, 2) := by decide +kernel
theorem d_BR_mix_110 : decode b_BR_mix 110 = .ok (.isub, 1) := by decide +kernel
theorem d_BR_mix_111 : decode b_BR_mix 111 = .ok (.i2l, 1) := by decide +kernel
theorem d_BR_mix_112 : decode b_BR_mix 112 = .ok (.iload 6, 2) := by decide +kernel
theorem d_BR_mix_114 : decode b_BR_mix 114 = .ok (.iload 7, 2) := by decide +kernel
theorem d_BR_mix_116 : decode b_BR_mix 116 = .ok (.isub, 1) := by decide +kernel
theorem d_BR_mix_117 : decode b_BR_mix 117 = .ok (.i2l, 1) := by decide +kernel
theorem d_BR_mix_118 : decode b_BR_mix 118 = .ok (.iload 5, 2) := by decide +kernel
theorem d_BR_mix_120 : decode b_BR_mix 120 = .ok (.invokestatic 133, 3) := by decide +kernel
theorem d_BR_mix_123 : decode b_BR_mix 123 = .ok (.lreturn, 1) := by decide +kernel
theorem d_BR_point_0 : decode b_BR_point 0 = .ok (.aload_n 0, 1) := by decide +kernel
theorem d_BR_point_1 : decode b_BR_point 1 = .ok (.getfield 37, 3) := by decide +kernel
theorem d_BR_point_4 : decode b_BR_point 4 = .ok (.getfield 168, 3) := by decide +kernel
theorem d_BR_point_7 : decode b_BR_point 7 = .ok (.bipush 20, 2) := by decide +kernel
theorem d_BR_point_9 : decode b_BR_point 9 = .ok (.if_icmp .lt 13, 3) := by decide +kernel
theorem d_BR_point_12 : decode b_BR_point 12 = .ok (.new 57, 3) := by decide +kernel
theorem d_BR_point_15 : decode b_BR_point 15 = .ok (.dup, 1) := by decide +kernel
theorem d_BR_point_16 : decode b_BR_point 16 = .ok (.ldc 171, 2) := by decide +kernel
theorem d_BR_point_18 : decode b_BR_point 18 = .ok (.invokespecial 61, 3) := by decide +kernel
theorem d_BR_point_21 : decode b_BR_point 21 = .ok (.athrow, 1) := by decide +kernel
theorem d_BR_point_22 : decode b_BR_point 22 = .ok (.iload_n 1, 1) := by decide +kernel
theorem d_BR_point_23 : decode b_BR_point 23 = .ok (.iconst 0, 1) := by decide +kernel
theorem d_BR_point_24 : decode b_BR_point 24 = .ok (.sipush 10000, 3) := by decide +kernel
theorem d_BR_point_27 : decode b_BR_point 27 = .ok (.invokestatic 46, 3) := by decide +kernel
theorem d_BR_point_30 : decode b_BR_point 30 = .ok (.iload_n 2, 1) := by decide +kernel
theorem d_BR_point_31 : decode b_BR_point 31 = .ok (.iconst 0, 1) := by decide +kernel
theorem d_BR_point_32 : decode b_BR_point 32 = .ok (.sipush 10000, 3) := by decide +kernel
theorem d_BR_point_35 : decode b_BR_point 35 = .ok (.invokestatic 46, 3) := by decide +kernel
theorem d_BR_point_38 : decode b_BR_point 38 = .ok (.aload_n 0, 1) := by decide +kernel
theorem d_BR_point_39 : decode b_BR_point 39 = .ok (.getfield 37, 3) := by decide +kernel
theorem d_BR_point_42 : decode b_BR_point 42 = .ok (.iload_n 1, 1) := by decide +kernel
theorem d_BR_point_43 : decode b_BR_point 43 = .ok (.iload_n 2, 1) := by decide +kernel
theorem d_BR_point_44 : decode b_BR_point 44 = .ok (.invokevirtual 173, 3) := by decide +kernel
theorem d_BR_point_47 : decode b_BR_point 47 = .ok (.aload_n 0, 1) := by decide +kernel
theorem d_BR_point_48 : decode b_BR_point 48 = .ok (.getfield 37, 3) := by decide +kernel
theorem d_BR_point_51 : decode b_BR_point 51 = .ok (.getfield 168, 3) := by decide +kernel
theorem d_BR_point_54 : decode b_BR_point 54 = .ok (.ireturn, 1) := by decide +kernel
theorem d_BR_fit_0 : decode b_BR_fit 0 = .ok (.iload_n 1, 1) := by decide +kernel
theorem d_BR_fit_1 : decode b_BR_fit 1 = .ok (.ifCond .lt 8, 3) := by decide +kernel
theorem d_BR_fit_4 : decode b_BR_fit 4 = .ok (.iload_n 1, 1) := by decide +kernel
theorem d_BR_fit_5 : decode b_BR_fit 5 = .ok (.iconst 1, 1) := by decide +kernel
theorem d_BR_fit_6 : decode b_BR_fit 6 = .ok (.if_icmp .le 13, 3) := by decide +kernel
theorem d_BR_fit_9 : decode b_BR_fit 9 = .ok (.new 151, 3) := by decide +kernel
theorem d_BR_fit_12 : decode b_BR_fit 12 = .ok (.dup, 1) := by decide +kernel
theorem d_BR_fit_13 : decode b_BR_fit 13 = .ok (.ldc 153, 2) := by decide +kernel
theorem d_BR_fit_15 : decode b_BR_fit 15 = .ok (.invokespecial 155, 3) := by decide +kernel
theorem d_BR_fit_18 : decode b_BR_fit 18 = .ok (.athrow, 1) := by decide +kernel
theorem d_BR_fit_19 : decode b_BR_fit 19 = .ok (.iload_n 2, 1) := by decide +kernel
theorem d_BR_fit_20 : decode b_BR_fit 20 = .ok (.invokestatic 120, 3) := by decide +kernel
theorem d_BR_fit_23 : decode b_BR_fit 23 = .ok (.aload_n 0, 1) := by decide +kernel
theorem d_BR_fit_24 : decode b_BR_fit 24 = .ok (.getfield 37, 3) := by decide +kernel
theorem d_BR_fit_27 : decode b_BR_fit 27 = .ok (.invokevirtual 177, 3) := by decide +kernel
theorem d_BR_fit_30 : decode b_BR_fit 30 = .ok (.lstore_n 3, 1) := by decide +kernel
theorem d_BR_fit_31 : decode b_BR_fit 31 = .ok (.lload_n 3, 1) := by decide +kernel
theorem d_BR_fit_32 : decode b_BR_fit 32 = .ok (.lconst 0, 1) := by decide +kernel
theorem d_BR_fit_33 : decode b_BR_fit 33 = .ok (.lcmp, 1) := by decide +kernel
theorem d_BR_fit_34 : decode b_BR_fit 34 = .ok (.ifCond .ne 13, 3) := by decide +kernel
theorem d_BR_fit_37 : decode b_BR_fit 37 = .ok (.new 96, 3) := by decide +kernel
theorem d_BR_fit_40 : decode b_BR_fit 40 = .ok (.dup, 1) := by decide +kernel
theorem d_BR_fit_41 : decode b_BR_fit 41 = .ok (.ldc 181, 2) := by decide +kernel
theorem d_BR_fit_43 : decode b_BR_fit 43 = .ok (.invokespecial 100, 3) := by decide +kernel
theorem d_BR_fit_46 : decode b_BR_fit 46 = .ok (.athrow, 1) := by decide +kernel
theorem d_BR_fit_47 : decode b_BR_fit 47 = .ok (.iload_n 1, 1) := by decide +kernel
theorem d_BR_fit_48 : decode b_BR_fit 48 = .ok (.ifCond .ne 13, 3) := by decide +kernel
theorem d_BR_fit_51 : decode b_BR_fit 51 = .ok (.aload_n 0, 1) := by decide +kernel
theorem d_BR_fit_52 : decode b_BR_fit 52 = .ok (.getfield 37, 3) := by decide +kernel
theorem d_BR_fit_55 : decode b_BR_fit 55 = .ok (.invokevirtual 183, 3) := by decide +kernel
theorem d_BR_fit_58 : decode b_BR_fit 58 = .ok (.goto 10, 3) := by decide +kernel
theorem d_BR_fit_61 : decode b_BR_fit 61 = .ok (.aload_n 0, 1) := by decide +kernel
theorem d_BR_fit_62 : decode b_BR_fit 62 = .ok (.getfield 37, 3) := by decide +kernel
theorem d_BR_fit_65 : decode b_BR_fit 65 = .ok (.invokevirtual 186, 3) := by decide +kernel
theorem d_BR_fit_68 : decode b_BR_fit 68 = .ok (.lload_n 3, 1) := by decide +kernel
theorem d_BR_fit_69 : decode b_BR_fit 69 = .ok (.iload_n 2, 1) := by decide +kernel
theorem d_BR_fit_70 : decode b_BR_fit 70 = .ok (.invokestatic 133, 3) := by decide +kernel
theorem d_BR_fit_73 : decode b_BR_fit 73 = .ok (.lreturn, 1) := by decide +kernel
theorem d_BR_tick_0 : decode b_BR_tick 0 = .ok (.iload_n 1, 1) := by decide +kernel
theorem d_BR_tick_1 : decode b_BR_tick 1 = .ok (.iconst 1, 1) := by decide +kernel
theorem d_BR_tick_2 : decode b_BR_tick 2 = .ok (.sipush 1000, 3) := by decide +kernel
theorem d_BR_tick_5 : decode b_BR_tick 5 = .ok (.invokestatic 46, 3) := by decide +kernel
theorem d_BR_tick_8 : decode b_BR_tick 8 = .ok (.aload_n 0, 1) := by decide +kernel
theorem d_BR_tick_9 : decode b_BR_tick 9 = .ok (.getfield 64, 3) := by decide +kernel
theorem d_BR_tick_12 : decode b_BR_tick 12 = .ok (.iload_n 1, 1) := by decide +kernel
theorem d_BR_tick_13 : decode b_BR_tick 13 = .ok (.iadd, 1) := by decide +kernel
theorem d_BR_tick_14 : decode b_BR_tick 14 = .ok (.iconst 0, 1) := by decide +kernel
theorem d_BR_tick_15 : decode b_BR_tick 15 = .ok (.sipush 9999, 3) := by decide +kernel
theorem d_BR_tick_18 : decode b_BR_tick 18 = .ok (.invokestatic 46, 3) := by decide +kernel
theorem d_BR_tick_21 : decode b_BR_tick 21 = .ok (.aload_n 0, 1) := by decide +kernel
theorem d_BR_tick_22 : decode b_BR_tick 22 = .ok (.dup, 1) := by decide +kernel
theorem d_BR_tick_23 : decode b_BR_tick 23 = .ok (.getfield 64, 3) := by decide +kernel
theorem d_BR_tick_26 : decode b_BR_tick 26 = .ok (.iload_n 1, 1) := by decide +kernel
theorem d_BR_tick_27 : decode b_BR_tick 27 = .ok (.iadd, 1) := by decide +kernel
theorem d_BR_tick_28 : decode b_BR_tick 28 = .ok (.putfield 64, 3) := by decide +kernel
theorem d_BR_tick_31 : decode b_BR_tick 31 = .ok (.aload_n 0, 1) := by decide +kernel
theorem d_BR_tick_32 : decode b_BR_tick 32 = .ok (.getfield 64, 3) := by decide +kernel
theorem d_BR_tick_35 : decode b_BR_tick 35 = .ok (.ireturn, 1) := by decide +kernel
theorem d_BR_needMaterial_0 : decode b_BR_needMaterial 0 = .ok (.iload_n 0, 1) := by decide +kernel
theorem d_BR_needMaterial_1 : decode b_BR_needMaterial 1 = .ok (.ifCond .lt 9, 3) := by decide +kernel
theorem d_BR_needMaterial_4 : decode b_BR_needMaterial 4 = .ok (.iload_n 0, 1) := by decide +kernel
theorem d_BR_needMaterial_5 : decode b_BR_needMaterial 5 = .ok (.bipush 8, 2) := by decide +kernel
theorem d_BR_needMaterial_7 : decode b_BR_needMaterial 7 = .ok (.if_icmp .lt 13, 3) := by decide +kernel
theorem d_BR_needMaterial_10 : decode b_BR_needMaterial 10 = .ok (.new 151, 3) := by decide +kernel
theorem d_BR_needMaterial_13 : decode b_BR_needMaterial 13 = .ok (.dup, 1) := by decide +kernel
theorem d_BR_needMaterial_14 : decode b_BR_needMaterial 14 = .ok (.ldc 189, 2) := by decide +kernel
theorem d_BR_needMaterial_16 : decode b_BR_needMaterial 16 = .ok (.invokespecial 155, 3) := by decide +kernel
theorem d_BR_needMaterial_19 : decode b_BR_needMaterial 19 = .ok (.athrow, 1) := by decide +kernel
theorem d_BR_needMaterial_20 : decode b_BR_needMaterial 20 = .ok (.return_, 1) := by decide +kernel
theorem d_BR_needElement_0 : decode b_BR_needElement 0 = .ok (.iload_n 0, 1) := by decide +kernel
theorem d_BR_needElement_1 : decode b_BR_needElement 1 = .ok (.ifCond .lt 8, 3) := by decide +kernel
theorem d_BR_needElement_4 : decode b_BR_needElement 4 = .ok (.iload_n 0, 1) := by decide +kernel
theorem d_BR_needElement_5 : decode b_BR_needElement 5 = .ok (.iconst 4, 1) := by decide +kernel
theorem d_BR_needElement_6 : decode b_BR_needElement 6 = .ok (.if_icmp .lt 13, 3) := by decide +kernel
theorem d_BR_needElement_9 : decode b_BR_needElement 9 = .ok (.new 151, 3) := by decide +kernel
theorem d_BR_needElement_12 : decode b_BR_needElement 12 = .ok (.dup, 1) := by decide +kernel
theorem d_BR_needElement_13 : decode b_BR_needElement 13 = .ok (.ldc 191, 2) := by decide +kernel
theorem d_BR_needElement_15 : decode b_BR_needElement 15 = .ok (.invokespecial 155, 3) := by decide +kernel
theorem d_BR_needElement_18 : decode b_BR_needElement 18 = .ok (.athrow, 1) := by decide +kernel
theorem d_BR_needElement_19 : decode b_BR_needElement 19 = .ok (.return_, 1) := by decide +kernel
theorem d_BR_needPart_0 : decode b_BR_needPart 0 = .ok (.iload_n 0, 1) := by decide +kernel
theorem d_BR_needPart_1 : decode b_BR_needPart 1 = .ok (.ifCond .lt 8, 3) := by decide +kernel
theorem d_BR_needPart_4 : decode b_BR_needPart 4 = .ok (.iload_n 0, 1) := by decide +kernel
theorem d_BR_needPart_5 : decode b_BR_needPart 5 = .ok (.iconst 1, 1) := by decide +kernel
theorem d_BR_needPart_6 : decode b_BR_needPart 6 = .ok (.if_icmp .le 13, 3) := by decide +kernel
theorem d_BR_needPart_9 : decode b_BR_needPart 9 = .ok (.new 151, 3) := by decide +kernel
theorem d_BR_needPart_12 : decode b_BR_needPart 12 = .ok (.dup, 1) := by decide +kernel
theorem d_BR_needPart_13 : decode b_BR_needPart 13 = .ok (.ldc 193, 2) := by decide +kernel
theorem d_BR_needPart_15 : decode b_BR_needPart 15 = .ok (.invokespecial 155, 3) := by decide +kernel
theorem d_BR_needPart_18 : decode b_BR_needPart 18 = .ok (.athrow, 1) := by decide +kernel
theorem d_BR_needPart_19 : decode b_BR_needPart 19 = .ok (.return_, 1) := by decide +kernel
theorem d_BR_needRange_0 : decode b_BR_needRange 0 = .ok (.iload_n 0, 1) := by decide +kernel
theorem d_BR_needRange_1 : decode b_BR_needRange 1 = .ok (.iload_n 1, 1) := by decide +kernel
theorem d_BR_needRange_2 : decode b_BR_needRange 2 = .ok (.if_icmp .lt 8, 3) := by decide +kernel
theorem d_BR_needRange_5 : decode b_BR_needRange 5 = .ok (.iload_n 0, 1) := by decide +kernel
theorem d_BR_needRange_6 : decode b_BR_needRange 6 = .ok (.iload_n 2, 1) := by decide +kernel
theorem d_BR_needRange_7 : decode b_BR_needRange 7 = .ok (.if_icmp .le 13, 3) := by decide +kernel
theorem d_BR_needRange_10 : decode b_BR_needRange 10 = .ok (.new 195, 3) := by decide +kernel
theorem d_BR_needRange_13 : decode b_BR_needRange 13 = .ok (.dup, 1) := by decide +kernel
theorem d_BR_needRange_14 : decode b_BR_needRange 14 = .ok (.ldc 197, 2) := by decide +kernel
theorem d_BR_needRange_16 : decode b_BR_needRange 16 = .ok (.invokespecial 199, 3) := by decide +kernel
theorem d_BR_needRange_19 : decode b_BR_needRange 19 = .ok (.athrow, 1) := by decide +kernel
theorem d_BR_needRange_20 : decode b_BR_needRange 20 = .ok (.return_, 1) := by decide +kernel
theorem d_BR_needTaken_0 : decode b_BR_needTaken 0 = .ok (.aload_n 0, 1) := by decide +kernel
theorem d_BR_needTaken_1 : decode b_BR_needTaken 1 = .ok (.getfield 88, 3) := by decide +kernel
theorem d_BR_needTaken_4 : decode b_BR_needTaken 4 = .ok (.ifCond .ne 13, 3) := by decide +kernel
theorem d_BR_needTaken_7 : decode b_BR_needTaken 7 = .ok (.new 57, 3) := by decide +kernel
theorem d_BR_needTaken_10 : decode b_BR_needTaken 10 = .ok (.dup, 1) := by decide +kernel
theorem d_BR_needTaken_11 : decode b_BR_needTaken 11 = .ok (.ldc 200, 2) := by decide +kernel
theorem d_BR_needTaken_13 : decode b_BR_needTaken 13 = .ok (.invokespecial 61, 3) := by decide +kernel
theorem d_BR_needTaken_16 : decode b_BR_needTaken 16 = .ok (.athrow, 1) := by decide +kernel
theorem d_BR_needTaken_17 : decode b_BR_needTaken 17 = .ok (.return_, 1) := by decide +kernel
theorem d_BR_needPile_0 : decode b_BR_needPile 0 = .ok (.iload_n 1, 1) := by decide +kernel
theorem d_BR_needPile_1 : decode b_BR_needPile 1 = .ok (.ifCond .lt 25, 3) := by decide +kernel
theorem d_BR_needPile_4 : decode b_BR_needPile 4 = .ok (.iload_n 1, 1) := by decide +kernel
theorem d_BR_needPile_5 : decode b_BR_needPile 5 = .ok (.iconst 4, 1) := by decide +kernel
theorem d_BR_needPile_6 : decode b_BR_needPile 6 = .ok (.if_icmp .ge 20, 3) := by decide +kernel
theorem d_BR_needPile_9 : decode b_BR_needPile 9 = .ok (.iload_n 1, 1) := by decide +kernel
theorem d_BR_needPile_10 : decode b_BR_needPile 10 = .ok (.aload_n 0, 1) := by decide +kernel
theorem d_BR_needPile_11 : decode b_BR_needPile 11 = .ok (.getfield 75, 3) := by decide +kernel
theorem d_BR_needPile_14 : decode b_BR_needPile 14 = .ok (.if_icmp .ge 12, 3) := by decide +kernel
theorem d_BR_needPile_17 : decode b_BR_needPile 17 = .ok (.aload_n 0, 1) := by decide +kernel
theorem d_BR_needPile_18 : decode b_BR_needPile 18 = .ok (.getfield 30, 3) := by decide +kernel
theorem d_BR_needPile_21 : decode b_BR_needPile 21 = .ok (.iload_n 1, 1) := by decide +kernel
theorem d_BR_needPile_22 : decode b_BR_needPile 22 = .ok (.aaload, 1) := by decide +kernel
theorem d_BR_needPile_23 : decode b_BR_needPile 23 = .ok (.goto 4, 3) := by decide +kernel
theorem d_BR_needPile_26 : decode b_BR_needPile 26 = .ok (.aconst_null, 1) := by decide +kernel
theorem d_BR_needPile_27 : decode b_BR_needPile 27 = .ok (.astore_n 2, 1) := by decide +kernel
theorem d_BR_needPile_28 : decode b_BR_needPile 28 = .ok (.aload_n 2, 1) := by decide +kernel
theorem d_BR_needPile_29 : decode b_BR_needPile 29 = .ok (.ifnonnull 13, 3) := by decide +kernel
theorem d_BR_needPile_32 : decode b_BR_needPile 32 = .ok (.new 151, 3) := by decide +kernel
theorem d_BR_needPile_35 : decode b_BR_needPile 35 = .ok (.dup, 1) := by decide +kernel
theorem d_BR_needPile_36 : decode b_BR_needPile 36 = .ok (.ldc 202, 2) := by decide +kernel
theorem d_BR_needPile_38 : decode b_BR_needPile 38 = .ok (.invokespecial 155, 3) := by decide +kernel
theorem d_BR_needPile_41 : decode b_BR_needPile 41 = .ok (.athrow, 1) := by decide +kernel
theorem d_BR_needPile_42 : decode b_BR_needPile 42 = .ok (.aload_n 2, 1) := by decide +kernel
theorem d_BR_needPile_43 : decode b_BR_needPile 43 = .ok (.areturn, 1) := by decide +kernel
theorem d_BR_lostKilos_0 : decode b_BR_lostKilos 0 = .ok (.iload_n 0, 1) := by decide +kernel
theorem d_BR_lostKilos_1 : decode b_BR_lostKilos 1 = .ok (.iload_n 1, 1) := by decide +kernel
theorem d_BR_lostKilos_2 : decode b_BR_lostKilos 2 = .ok (.imul, 1) := by decide +kernel
theorem d_BR_lostKilos_3 : decode b_BR_lostKilos 3 = .ok (.sipush 1000, 3) := by decide +kernel
theorem d_BR_lostKilos_6 : decode b_BR_lostKilos 6 = .ok (.iadd, 1) := by decide +kernel
theorem d_BR_lostKilos_7 : decode b_BR_lostKilos 7 = .ok (.iconst 1, 1) := by decide +kernel
theorem d_BR_lostKilos_8 : decode b_BR_lostKilos 8 = .ok (.isub, 1) := by decide +kernel
theorem d_BR_lostKilos_9 : decode b_BR_lostKilos 9 = .ok (.sipush 1000, 3) := by decide +kernel
theorem d_BR_lostKilos_12 : decode b_BR_lostKilos 12 = .ok (.idiv, 1) := by decide +kernel
theorem d_BR_lostKilos_13 : decode b_BR_lostKilos 13 = .ok (.ireturn, 1) := by decide +kernel
theorem d_BR_stockOf_0 : decode b_BR_stockOf 0 = .ok (.aload_n 0, 1) := by decide +kernel
theorem d_BR_stockOf_1 : decode b_BR_stockOf 1 = .ok (.getfield 16, 3) := by decide +kernel
theorem d_BR_stockOf_4 : decode b_BR_stockOf 4 = .ok (.iload_n 1, 1) := by decide +kernel
theorem d_BR_stockOf_5 : decode b_BR_stockOf 5 = .ok (.iaload, 1) := by decide +kernel
theorem d_BR_stockOf_6 : decode b_BR_stockOf 6 = .ok (.ineg, 1) := by decide +kernel
theorem d_BR_stockOf_7 : decode b_BR_stockOf 7 = .ok (.istore_n 2, 1) := by decide +kernel
theorem d_BR_stockOf_8 : decode b_BR_stockOf 8 = .ok (.iconst 0, 1) := by decide +kernel
theorem d_BR_stockOf_9 : decode b_BR_stockOf 9 = .ok (.istore_n 3, 1) := by decide +kernel
theorem d_BR_stockOf_10 : decode b_BR_stockOf 10 = .ok (.iload_n 3, 1) := by decide +kernel
theorem d_BR_stockOf_11 : decode b_BR_stockOf 11 = .ok (.bipush 40, 2) := by decide +kernel
theorem d_BR_stockOf_13 : decode b_BR_stockOf 13 = .ok (.if_icmp .ge 49, 3) := by decide +kernel
theorem d_BR_stockOf_16 : decode b_BR_stockOf 16 = .ok (.iload_n 3, 1) := by decide +kernel
theorem d_BR_stockOf_17 : decode b_BR_stockOf 17 = .ok (.aload_n 0, 1) := by decide +kernel
theorem d_BR_stockOf_18 : decode b_BR_stockOf 18 = .ok (.getfield 53, 3) := by decide +kernel
theorem d_BR_stockOf_21 : decode b_BR_stockOf 21 = .ok (.if_icmp .ge 41, 3) := by decide +kernel
theorem d_BR_stockOf_24 : decode b_BR_stockOf 24 = .ok (.aload_n 0, 1) := by decide +kernel
theorem d_BR_stockOf_25 : decode b_BR_stockOf 25 = .ok (.getfield 22, 3) := by decide +kernel
theorem d_BR_stockOf_28 : decode b_BR_stockOf 28 = .ok (.iload_n 3, 1) := by decide +kernel
theorem d_BR_stockOf_29 : decode b_BR_stockOf 29 = .ok (.iaload, 1) := by decide +kernel
theorem d_BR_stockOf_30 : decode b_BR_stockOf 30 = .ok (.iload_n 1, 1) := by decide +kernel
theorem d_BR_stockOf_31 : decode b_BR_stockOf 31 = .ok (.if_icmp .ne 25, 3) := by decide +kernel
theorem d_BR_stockOf_34 : decode b_BR_stockOf 34 = .ok (.aload_n 0, 1) := by decide +kernel
theorem d_BR_stockOf_35 : decode b_BR_stockOf 35 = .ok (.getfield 19, 3) := by decide +kernel
theorem d_BR_stockOf_38 : decode b_BR_stockOf 38 = .ok (.iload_n 3, 1) := by decide +kernel
theorem d_BR_stockOf_39 : decode b_BR_stockOf 39 = .ok (.iaload, 1) := by decide +kernel
theorem d_BR_stockOf_40 : decode b_BR_stockOf 40 = .ok (.aload_n 0, 1) := by decide +kernel
theorem d_BR_stockOf_41 : decode b_BR_stockOf 41 = .ok (.getfield 64, 3) := by decide +kernel
theorem d_BR_stockOf_44 : decode b_BR_stockOf 44 = .ok (.if_icmp .gt 12, 3) := by decide +kernel
theorem d_BR_stockOf_47 : decode b_BR_stockOf 47 = .ok (.iload_n 2, 1) := by decide +kernel
theorem d_BR_stockOf_48 : decode b_BR_stockOf 48 = .ok (.aload_n 0, 1) := by decide +kernel
theorem d_BR_stockOf_49 : decode b_BR_stockOf 49 = .ok (.getfield 25, 3) := by decide +kernel
theorem d_BR_stockOf_52 : decode b_BR_stockOf 52 = .ok (.iload_n 3, 1) := by decide +kernel
theorem d_BR_stockOf_53 : decode b_BR_stockOf 53 = .ok (.iaload, 1) := by decide +kernel
theorem d_BR_stockOf_54 : decode b_BR_stockOf 54 = .ok (.iadd, 1) := by decide +kernel
theorem d_BR_stockOf_55 : decode b_BR_stockOf 55 = .ok (.istore_n 2, 1) := by decide +kernel
theorem d_BR_stockOf_56 : decode b_BR_stockOf 56 = .ok (.iinc 3 1, 3) := by decide +kernel
theorem d_BR_stockOf_59 : decode b_BR_stockOf 59 = .ok (.goto (-49), 3) := by decide +kernel
theorem d_BR_stockOf_62 : decode b_BR_stockOf 62 = .ok (.iload_n 2, 1) := by decide +kernel
theorem d_BR_stockOf_63 : decode b_BR_stockOf 63 = .ok (.ireturn, 1) := by decide +kernel
theorem d_BR_lowestTerms_0 : decode b_BR_lowestTerms 0 = .ok (.lload_n 0, 1) := by decide +kernel
theorem d_BR_lowestTerms_1 : decode b_BR_lowestTerms 1 = .ok (.lload_n 2, 1) := by decide +kernel
theorem d_BR_lowestTerms_2 : decode b_BR_lowestTerms 2 = .ok (.invokestatic 204, 3) := by decide +kernel
theorem d_BR_lowestTerms_5 : decode b_BR_lowestTerms 5 = .ok (.lstore 5, 2) := by decide +kernel
theorem d_BR_lowestTerms_7 : decode b_BR_lowestTerms 7 = .ok (.lload 5, 2) := by decide +kernel
theorem d_BR_lowestTerms_9 : decode b_BR_lowestTerms 9 = .ok (.lconst 0, 1) := by decide +kernel
theorem d_BR_lowestTerms_10 : decode b_BR_lowestTerms 10 = .ok (.lcmp, 1) := by decide +kernel
theorem d_BR_lowestTerms_11 : decode b_BR_lowestTerms 11 = .ok (.ifCond .ne 5, 3) := by decide +kernel
theorem d_BR_lowestTerms_14 : decode b_BR_lowestTerms 14 = .ok (.lconst 0, 1) := by decide +kernel
theorem d_BR_lowestTerms_15 : decode b_BR_lowestTerms 15 = .ok (.lreturn, 1) := by decide +kernel
theorem d_BR_lowestTerms_16 : decode b_BR_lowestTerms 16 = .ok (.iload 4, 2) := by decide +kernel
theorem d_BR_lowestTerms_18 : decode b_BR_lowestTerms 18 = .ok (.ifCond .ne 7, 3) := by decide +kernel
theorem d_BR_lowestTerms_21 : decode b_BR_lowestTerms 21 = .ok (.lload_n 0, 1) := by decide +kernel
theorem d_BR_lowestTerms_22 : decode b_BR_lowestTerms 22 = .ok (.goto 4, 3) := by decide +kernel
theorem d_BR_lowestTerms_25 : decode b_BR_lowestTerms 25 = .ok (.lload_n 2, 1) := by decide +kernel
theorem d_BR_lowestTerms_26 : decode b_BR_lowestTerms 26 = .ok (.lload 5, 2) := by decide +kernel
theorem d_BR_lowestTerms_28 : decode b_BR_lowestTerms 28 = .ok (.ldiv, 1) := by decide +kernel
theorem d_BR_lowestTerms_29 : decode b_BR_lowestTerms 29 = .ok (.lstore 7, 2) := by decide +kernel
theorem d_BR_lowestTerms_31 : decode b_BR_lowestTerms 31 = .ok (.lload_n 2, 1) := by decide +kernel
theorem d_BR_lowestTerms_32 : decode b_BR_lowestTerms 32 = .ok (.lconst 0, 1) := by decide +kernel
theorem d_BR_lowestTerms_33 : decode b_BR_lowestTerms 33 = .ok (.lcmp, 1) := by decide +kernel
theorem d_BR_lowestTerms_34 : decode b_BR_lowestTerms 34 = .ok (.ifCond .ge 9, 3) := by decide +kernel
theorem d_BR_lowestTerms_37 : decode b_BR_lowestTerms 37 = .ok (.lload 7, 2) := by decide +kernel
theorem d_BR_lowestTerms_39 : decode b_BR_lowestTerms 39 = .ok (.lneg, 1) := by decide +kernel
theorem d_BR_lowestTerms_40 : decode b_BR_lowestTerms 40 = .ok (.goto 5, 3) := by decide +kernel
theorem d_BR_lowestTerms_43 : decode b_BR_lowestTerms 43 = .ok (.lload 7, 2) := by decide +kernel
theorem d_BR_lowestTerms_45 : decode b_BR_lowestTerms 45 = .ok (.lreturn, 1) := by decide +kernel
theorem d_BR_commonDivisor_0 : decode b_BR_commonDivisor 0 = .ok (.lload_n 0, 1) := by decide +kernel
theorem d_BR_commonDivisor_1 : decode b_BR_commonDivisor 1 = .ok (.invokestatic 208, 3) := by decide +kernel
theorem d_BR_commonDivisor_4 : decode b_BR_commonDivisor 4 = .ok (.lstore 4, 2) := by decide +kernel
theorem d_BR_commonDivisor_6 : decode b_BR_commonDivisor 6 = .ok (.lload_n 2, 1) := by decide +kernel
theorem d_BR_commonDivisor_7 : decode b_BR_commonDivisor 7 = .ok (.invokestatic 208, 3) := by decide +kernel
theorem d_BR_commonDivisor_10 : decode b_BR_commonDivisor 10 = .ok (.lstore 6, 2) := by decide +kernel
theorem d_BR_commonDivisor_12 : decode b_BR_commonDivisor 12 = .ok (.iconst 0, 1) := by decide +kernel
theorem d_BR_commonDivisor_13 : decode b_BR_commonDivisor 13 = .ok (.istore 8, 2) := by decide +kernel
theorem d_BR_commonDivisor_15 : decode b_BR_commonDivisor 15 = .ok (.iload 8, 2) := by decide +kernel
theorem d_BR_commonDivisor_17 : decode b_BR_commonDivisor 17 = .ok (.bipush 100, 2) := by decide +kernel
theorem d_BR_commonDivisor_19 : decode b_BR_commonDivisor 19 = .ok (.if_icmp .ge 31, 3) := by decide +kernel
theorem d_BR_commonDivisor_22 : decode b_BR_commonDivisor 22 = .ok (.lload 6, 2) := by decide +kernel
theorem d_BR_commonDivisor_24 : decode b_BR_commonDivisor 24 = .ok (.lconst 0, 1) := by decide +kernel
theorem d_BR_commonDivisor_25 : decode b_BR_commonDivisor 25 = .ok (.lcmp, 1) := by decide +kernel
theorem d_BR_commonDivisor_26 : decode b_BR_commonDivisor 26 = .ok (.ifCond .eq 24, 3) := by decide +kernel
theorem d_BR_commonDivisor_29 : decode b_BR_commonDivisor 29 = .ok (.lload 4, 2) := by decide +kernel
theorem d_BR_commonDivisor_31 : decode b_BR_commonDivisor 31 = .ok (.lload 6, 2) := by decide +kernel
theorem d_BR_commonDivisor_33 : decode b_BR_commonDivisor 33 = .ok (.lrem, 1) := by decide +kernel
theorem d_BR_commonDivisor_34 : decode b_BR_commonDivisor 34 = .ok (.lstore 9, 2) := by decide +kernel
theorem d_BR_commonDivisor_36 : decode b_BR_commonDivisor 36 = .ok (.lload 6, 2) := by decide +kernel
theorem d_BR_commonDivisor_38 : decode b_BR_commonDivisor 38 = .ok (.lstore 4, 2) := by decide +kernel
theorem d_BR_commonDivisor_40 : decode b_BR_commonDivisor 40 = .ok (.lload 9, 2) := by decide +kernel
theorem d_BR_commonDivisor_42 : decode b_BR_commonDivisor 42 = .ok (.lstore 6, 2) := by decide +kernel
theorem d_BR_commonDivisor_44 : decode b_BR_commonDivisor 44 = .ok (.iinc 8 1, 3) := by decide +kernel
theorem d_BR_commonDivisor_47 : decode b_BR_commonDivisor 47 = .ok (.goto (-32), 3) := by decide +kernel
theorem d_BR_commonDivisor_50 : decode b_BR_commonDivisor 50 = .ok (.lload 4, 2) := by decide +kernel
theorem d_BR_commonDivisor_52 : decode b_BR_commonDivisor 52 = .ok (.lreturn, 1) := by decide +kernel
theorem d_PI_init_0 : decode b_PI_init 0 = .ok (.aload_n 0, 1) := by decide +kernel
theorem d_PI_init_1 : decode b_PI_init 1 = .ok (.invokespecial 3, 3) := by decide +kernel
theorem d_PI_init_4 : decode b_PI_init 4 = .ok (.aload_n 0, 1) := by decide +kernel
theorem d_PI_init_5 : decode b_PI_init 5 = .ok (.bipush 20, 2) := by decide +kernel
theorem d_PI_init_7 : decode b_PI_init 7 = .ok (.newarray .int, 2) := by decide +kernel
theorem d_PI_init_9 : decode b_PI_init 9 = .ok (.putfield 9, 3) := by decide +kernel
theorem d_PI_init_12 : decode b_PI_init 12 = .ok (.aload_n 0, 1) := by decide +kernel
theorem d_PI_init_13 : decode b_PI_init 13 = .ok (.bipush 80, 2) := by decide +kernel
theorem d_PI_init_15 : decode b_PI_init 15 = .ok (.newarray .int, 2) := by decide +kernel
theorem d_PI_init_17 : decode b_PI_init 17 = .ok (.putfield 15, 3) := by decide +kernel
theorem d_PI_init_20 : decode b_PI_init 20 = .ok (.aload_n 0, 1) := by decide +kernel
theorem d_PI_init_21 : decode b_PI_init 21 = .ok (.iconst 4, 1) := by decide +kernel
theorem d_PI_init_22 : decode b_PI_init 22 = .ok (.newarray .long, 2) := by decide +kernel
theorem d_PI_init_24 : decode b_PI_init 24 = .ok (.putfield 18, 3) := by decide +kernel
theorem d_PI_init_27 : decode b_PI_init 27 = .ok (.aload_n 0, 1) := by decide +kernel
theorem d_PI_init_28 : decode b_PI_init 28 = .ok (.iconst 4, 1) := by decide +kernel
theorem d_PI_init_29 : decode b_PI_init 29 = .ok (.newarray .long, 2) := by decide +kernel
theorem d_PI_init_31 : decode b_PI_init 31 = .ok (.putfield 22, 3) := by decide +kernel
theorem d_PI_init_34 : decode b_PI_init 34 = .ok (.aload_n 0, 1) := by decide +kernel
theorem d_PI_init_35 : decode b_PI_init 35 = .ok (.iconst 4, 1) := by decide +kernel
theorem d_PI_init_36 : decode b_PI_init 36 = .ok (.newarray .int, 2) := by decide +kernel
theorem d_PI_init_38 : decode b_PI_init 38 = .ok (.putfield 25, 3) := by decide +kernel
theorem d_PI_init_41 : decode b_PI_init 41 = .ok (.aload_n 0, 1) := by decide +kernel
theorem d_PI_init_42 : decode b_PI_init 42 = .ok (.iconst 4, 1) := by decide +kernel
theorem d_PI_init_43 : decode b_PI_init 43 = .ok (.newarray .long, 2) := by decide +kernel
theorem d_PI_init_45 : decode b_PI_init 45 = .ok (.putfield 28, 3) := by decide +kernel
theorem d_PI_init_48 : decode b_PI_init 48 = .ok (.aload_n 0, 1) := by decide +kernel
theorem d_PI_init_49 : decode b_PI_init 49 = .ok (.iconst 4, 1) := by decide +kernel
theorem d_PI_init_50 : decode b_PI_init 50 = .ok (.newarray .int, 2) := by decide +kernel
theorem d_PI_init_52 : decode b_PI_init 52 = .ok (.putfield 31, 3) := by decide +kernel
theorem d_PI_init_55 : decode b_PI_init 55 = .ok (.return_, 1) := by decide +kernel
theorem d_PI_addLayer_0 : decode b_PI_addLayer 0 = .ok (.aload_n 0, 1) := by decide +kernel
theorem d_PI_addLayer_1 : decode b_PI_addLayer 1 = .ok (.getfield 9, 3) := by decide +kernel
theorem d_PI_addLayer_4 : decode b_PI_addLayer 4 = .ok (.aload_n 0, 1) := by decide +kernel
theorem d_PI_addLayer_5 : decode b_PI_addLayer 5 = .ok (.getfield 34, 3) := by decide +kernel
theorem d_PI_addLayer_8 : decode b_PI_addLayer 8 = .ok (.iload_n 1, 1) := by decide +kernel
theorem d_PI_addLayer_9 : decode b_PI_addLayer 9 = .ok (.iastore, 1) := by decide +kernel
theorem d_PI_addLayer_10 : decode b_PI_addLayer 10 = .ok (.iconst 0, 1) := by decide +kernel
theorem d_PI_addLayer_11 : decode b_PI_addLayer 11 = .ok (.istore 4, 2) := by decide +kernel
theorem d_PI_addLayer_13 : decode b_PI_addLayer 13 = .ok (.iload 4, 2) := by decide +kernel
theorem d_PI_addLayer_15 : decode b_PI_addLayer 15 = .ok (.iconst 4, 1) := by decide +kernel
theorem d_PI_addLayer_16 : decode b_PI_addLayer 16 = .ok (.if_icmp .ge 31, 3) := by decide +kernel
theorem d_PI_addLayer_19 : decode b_PI_addLayer 19 = .ok (.aload_n 0, 1) := by decide +kernel
theorem d_PI_addLayer_20 : decode b_PI_addLayer 20 = .ok (.getfield 15, 3) := by decide +kernel
theorem d_PI_addLayer_23 : decode b_PI_addLayer 23 = .ok (.aload_n 0, 1) := by decide +kernel
theorem d_PI_addLayer_24 : decode b_PI_addLayer 24 = .ok (.getfield 34, 3) := by decide +kernel
theorem d_PI_addLayer_27 : decode b_PI_addLayer 27 = .ok (.iconst 4, 1) := by decide +kernel
theorem d_PI_addLayer_28 : decode b_PI_addLayer 28 = .ok (.imul, 1) := by decide +kernel
theorem d_PI_addLayer_29 : decode b_PI_addLayer 29 = .ok (.iload 4, 2) := by decide +kernel
theorem d_PI_addLayer_31 : decode b_PI_addLayer 31 = .ok (.iadd, 1) := by decide +kernel
theorem d_PI_addLayer_32 : decode b_PI_addLayer 32 = .ok (.aload_n 2, 1) := by decide +kernel
theorem d_PI_addLayer_33 : decode b_PI_addLayer 33 = .ok (.iload_n 3, 1) := by decide +kernel
theorem d_PI_addLayer_34 : decode b_PI_addLayer 34 = .ok (.iconst 4, 1) := by decide +kernel
theorem d_PI_addLayer_35 : decode b_PI_addLayer 35 = .ok (.imul, 1) := by decide +kernel
theorem d_PI_addLayer_36 : decode b_PI_addLayer 36 = .ok (.iload 4, 2) := by decide +kernel
theorem d_PI_addLayer_38 : decode b_PI_addLayer 38 = .ok (.iadd, 1) := by decide +kernel
theorem d_PI_addLayer_39 : decode b_PI_addLayer 39 = .ok (.iaload, 1) := by decide +kernel
theorem d_PI_addLayer_40 : decode b_PI_addLayer 40 = .ok (.iastore, 1) := by decide +kernel
theorem d_PI_addLayer_41 : decode b_PI_addLayer 41 = .ok (.iinc 4 1, 3) := by decide +kernel
theorem d_PI_addLayer_44 : decode b_PI_addLayer 44 = .ok (.goto (-31), 3) := by decide +kernel
theorem d_PI_addLayer_47 : decode b_PI_addLayer 47 = .ok (.aload_n 0, 1) := by decide +kernel
theorem d_PI_addLayer_48 : decode b_PI_addLayer 48 = .ok (.dup, 1) := by decide +kernel
theorem d_PI_addLayer_49 : decode b_PI_addLayer 49 = .ok (.getfield 38, 3) := by decide +kernel
theorem d_PI_addLayer_52 : decode b_PI_addLayer 52 = .ok (.iload_n 1, 1) := by decide +kernel
theorem d_PI_addLayer_53 : decode b_PI_addLayer 53 = .ok (.iadd, 1) := by decide +kernel
theorem d_PI_addLayer_54 : decode b_PI_addLayer 54 = .ok (.putfield 38, 3) := by decide +kernel
theorem d_PI_addLayer_57 : decode b_PI_addLayer 57 = .ok (.aload_n 0, 1) := by decide +kernel
theorem d_PI_addLayer_58 : decode b_PI_addLayer 58 = .ok (.dup, 1) := by decide +kernel
theorem d_PI_addLayer_59 : decode b_PI_addLayer 59 = .ok (.getfield 34, 3) := by decide +kernel
theorem d_PI_addLayer_62 : decode b_PI_addLayer 62 = .ok (.iconst 1, 1) := by decide +kernel
theorem d_PI_addLayer_63 : decode b_PI_addLayer 63 = .ok (.iadd, 1) := by decide +kernel
theorem d_PI_addLayer_64 : decode b_PI_addLayer 64 = .ok (.putfield 34, 3) := by decide +kernel
theorem d_PI_addLayer_67 : decode b_PI_addLayer 67 = .ok (.return_, 1) := by decide +kernel
theorem d_PI_takeNext_0 : decode b_PI_takeNext 0 = .ok (.aload_n 0, 1) := by decide +kernel
theorem d_PI_takeNext_1 : decode b_PI_takeNext 1 = .ok (.invokevirtual 41, 3) := by decide +kernel
theorem d_PI_takeNext_4 : decode b_PI_takeNext 4 = .ok (.iconst 0, 1) := by decide +kernel
theorem d_PI_takeNext_5 : decode b_PI_takeNext 5 = .ok (.istore_n 1, 1) := by decide +kernel
theorem d_PI_takeNext_6 : decode b_PI_takeNext 6 = .ok (.iload_n 1, 1) := by decide +kernel
theorem d_PI_takeNext_7 : decode b_PI_takeNext 7 = .ok (.bipush 20, 2) := by decide +kernel
theorem d_PI_takeNext_9 : decode b_PI_takeNext 9 = .ok (.if_icmp .ge 22, 3) := by decide +kernel
theorem d_PI_takeNext_12 : decode b_PI_takeNext 12 = .ok (.iload_n 1, 1) := by decide +kernel
theorem d_PI_takeNext_13 : decode b_PI_takeNext 13 = .ok (.aload_n 0, 1) := by decide +kernel
theorem d_PI_takeNext_14 : decode b_PI_takeNext 14 = .ok (.getfield 34, 3) := by decide +kernel
theorem d_PI_takeNext_17 : decode b_PI_takeNext 17 = .ok (.if_icmp .ge 14, 3) := by decide +kernel
theorem d_PI_takeNext_20 : decode b_PI_takeNext 20 = .ok (.aload_n 0, 1) := by decide +kernel
theorem d_PI_takeNext_21 : decode b_PI_takeNext 21 = .ok (.iload_n 1, 1) := by decide +kernel
theorem d_PI_takeNext_22 : decode b_PI_takeNext 22 = .ok (.invokevirtual 44, 3) := by decide +kernel
theorem d_PI_takeNext_25 : decode b_PI_takeNext 25 = .ok (.iinc 1 1, 3) := by decide +kernel
theorem d_PI_takeNext_28 : decode b_PI_takeNext 28 = .ok (.goto (-22), 3) := by decide +kernel
theorem d_PI_takeNext_31 : decode b_PI_takeNext 31 = .ok (.aload_n 0, 1) := by decide +kernel
theorem d_PI_takeNext_32 : decode b_PI_takeNext 32 = .ok (.dup, 1) := by decide +kernel
theorem d_PI_takeNext_33 : decode b_PI_takeNext 33 = .ok (.getfield 48, 3) := by decide +kernel
theorem d_PI_takeNext_36 : decode b_PI_takeNext 36 = .ok (.iconst 1, 1) := by decide +kernel
theorem d_PI_takeNext_37 : decode b_PI_takeNext 37 = .ok (.iadd, 1) := by decide +kernel
theorem d_PI_takeNext_38 : decode b_PI_takeNext 38 = .ok (.putfield 48, 3) := by decide +kernel
theorem d_PI_takeNext_41 : decode b_PI_takeNext 41 = .ok (.aload_n 0, 1) := by decide +kernel
theorem d_PI_takeNext_42 : decode b_PI_takeNext 42 = .ok (.dup, 1) := by decide +kernel
theorem d_PI_takeNext_43 : decode b_PI_takeNext 43 = .ok (.getfield 51, 3) := by decide +kernel
theorem d_PI_takeNext_46 : decode b_PI_takeNext 46 = .ok (.aload_n 0, 1) := by decide +kernel
theorem d_PI_takeNext_47 : decode b_PI_takeNext 47 = .ok (.getfield 54, 3) := by decide +kernel
theorem d_PI_takeNext_50 : decode b_PI_takeNext 50 = .ok (.iadd, 1) := by decide +kernel
theorem d_PI_takeNext_51 : decode b_PI_takeNext 51 = .ok (.putfield 51, 3) := by decide +kernel
theorem d_PI_takeNext_54 : decode b_PI_takeNext 54 = .ok (.aload_n 0, 1) := by decide +kernel
theorem d_PI_takeNext_55 : decode b_PI_takeNext 55 = .ok (.getfield 54, 3) := by decide +kernel
theorem d_PI_takeNext_58 : decode b_PI_takeNext 58 = .ok (.ifCond .le 26, 3) := by decide +kernel
theorem d_PI_takeNext_61 : decode b_PI_takeNext 61 = .ok (.iconst 0, 1) := by decide +kernel
theorem d_PI_takeNext_62 : decode b_PI_takeNext 62 = .ok (.istore_n 1, 1) := by decide +kernel
theorem d_PI_takeNext_63 : decode b_PI_takeNext 63 = .ok (.iload_n 1, 1) := by decide +kernel
theorem d_PI_takeNext_64 : decode b_PI_takeNext 64 = .ok (.iconst 4, 1) := by decide +kernel
theorem d_PI_takeNext_65 : decode b_PI_takeNext 65 = .ok (.if_icmp .ge 19, 3) := by decide +kernel
theorem d_PI_takeNext_68 : decode b_PI_takeNext 68 = .ok (.aload_n 0, 1) := by decide +kernel
theorem d_PI_takeNext_69 : decode b_PI_takeNext 69 = .ok (.iload_n 1, 1) := by decide +kernel
theorem d_PI_takeNext_70 : decode b_PI_takeNext 70 = .ok (.invokevirtual 57, 3) := by decide +kernel
theorem d_PI_takeNext_73 : decode b_PI_takeNext 73 = .ok (.aload_n 0, 1) := by decide +kernel
theorem d_PI_takeNext_74 : decode b_PI_takeNext 74 = .ok (.iload_n 1, 1) := by decide +kernel
theorem d_PI_takeNext_75 : decode b_PI_takeNext 75 = .ok (.invokevirtual 60, 3) := by decide +kernel
theorem d_PI_takeNext_78 : decode b_PI_takeNext 78 = .ok (.iinc 1 1, 3) := by decide +kernel
theorem d_PI_takeNext_81 : decode b_PI_takeNext 81 = .ok (.goto (-18), 3) := by decide +kernel
theorem d_PI_takeNext_84 : decode b_PI_takeNext 84 = .ok (.return_, 1) := by decide +kernel
theorem d_PI_clearLatest_0 : decode b_PI_clearLatest 0 = .ok (.aload_n 0, 1) := by decide +kernel
theorem d_PI_clearLatest_1 : decode b_PI_clearLatest 1 = .ok (.iconst 0, 1) := by decide +kernel
theorem d_PI_clearLatest_2 : decode b_PI_clearLatest 2 = .ok (.putfield 54, 3) := by decide +kernel
theorem d_PI_clearLatest_5 : decode b_PI_clearLatest 5 = .ok (.iconst 0, 1) := by decide +kernel
theorem d_PI_clearLatest_6 : decode b_PI_clearLatest 6 = .ok (.istore_n 1, 1) := by decide +kernel
theorem d_PI_clearLatest_7 : decode b_PI_clearLatest 7 = .ok (.iload_n 1, 1) := by decide +kernel
theorem d_PI_clearLatest_8 : decode b_PI_clearLatest 8 = .ok (.iconst 4, 1) := by decide +kernel
theorem d_PI_clearLatest_9 : decode b_PI_clearLatest 9 = .ok (.if_icmp .ge 16, 3) := by decide +kernel
theorem d_PI_clearLatest_12 : decode b_PI_clearLatest 12 = .ok (.aload_n 0, 1) := by decide +kernel
theorem d_PI_clearLatest_13 : decode b_PI_clearLatest 13 = .ok (.getfield 18, 3) := by decide +kernel
theorem d_PI_clearLatest_16 : decode b_PI_clearLatest 16 = .ok (.iload_n 1, 1) := by decide +kernel
theorem d_PI_clearLatest_17 : decode b_PI_clearLatest 17 = .ok (.lconst 0, 1) := by decide +kernel
theorem d_PI_clearLatest_18 : decode b_PI_clearLatest 18 = .ok (.lastore, 1) := by decide +kernel
theorem d_PI_clearLatest_19 : decode b_PI_clearLatest 19 = .ok (.iinc 1 1, 3) := by decide +kernel
theorem d_PI_clearLatest_22 : decode b_PI_clearLatest 22 = .ok (.goto (-15), 3) := by decide +kernel
theorem d_PI_clearLatest_25 : decode b_PI_clearLatest 25 = .ok (.return_, 1) := by decide +kernel
theorem d_PI_takeOfLayer_0 : decode b_PI_takeOfLayer 0 = .ok (.aload_n 0, 1) := by decide +kernel
theorem d_PI_takeOfLayer_1 : decode b_PI_takeOfLayer 1 = .ok (.iload_n 1, 1) := by decide +kernel
theorem d_PI_takeOfLayer_2 : decode b_PI_takeOfLayer 2 = .ok (.aload_n 0, 1) := by decide +kernel
theorem d_PI_takeOfLayer_3 : decode b_PI_takeOfLayer 3 = .ok (.getfield 48, 3) := by decide +kernel
theorem d_PI_takeOfLayer_6 : decode b_PI_takeOfLayer 6 = .ok (.iconst 1, 1) := by decide +kernel
theorem d_PI_takeOfLayer_7 : decode b_PI_takeOfLayer 7 = .ok (.iadd, 1) := by decide +kernel
theorem d_PI_takeOfLayer_8 : decode b_PI_takeOfLayer 8 = .ok (.invokevirtual 63, 3) := by decide +kernel
theorem d_PI_takeOfLayer_11 : decode b_PI_takeOfLayer 11 = .ok (.aload_n 0, 1) := by decide +kernel
theorem d_PI_takeOfLayer_12 : decode b_PI_takeOfLayer 12 = .ok (.iload_n 1, 1) := by decide +kernel
theorem d_PI_takeOfLayer_13 : decode b_PI_takeOfLayer 13 = .ok (.aload_n 0, 1) := by decide +kernel
theorem d_PI_takeOfLayer_14 : decode b_PI_takeOfLayer 14 = .ok (.getfield 48, 3) := by decide +kernel
theorem d_PI_takeOfLayer_17 : decode b_PI_takeOfLayer 17 = .ok (.invokevirtual 63, 3) := by decide +kernel
theorem d_PI_takeOfLayer_20 : decode b_PI_takeOfLayer 20 = .ok (.isub, 1) := by decide +kernel
theorem d_PI_takeOfLayer_21 : decode b_PI_takeOfLayer 21 = .ok (.istore_n 2, 1) := by decide +kernel
theorem d_PI_takeOfLayer_22 : decode b_PI_takeOfLayer 22 = .ok (.aload_n 0, 1) := by decide +kernel
theorem d_PI_takeOfLayer_23 : decode b_PI_takeOfLayer 23 = .ok (.dup, 1) := by decide +kernel
theorem d_PI_takeOfLayer_24 : decode b_PI_takeOfLayer 24 = .ok (.getfield 54, 3) := by decide +kernel
theorem d_PI_takeOfLayer_27 : decode b_PI_takeOfLayer 27 = .ok (.iload_n 2, 1) := by decide +kernel
theorem d_PI_takeOfLayer_28 : decode b_PI_takeOfLayer 28 = .ok (.iadd, 1) := by decide +kernel
theorem d_PI_takeOfLayer_29 : decode b_PI_takeOfLayer 29 = .ok (.putfield 54, 3) := by decide +kernel
theorem d_PI_takeOfLayer_32 : decode b_PI_takeOfLayer 32 = .ok (.iconst 0, 1) := by decide +kernel
theorem d_PI_takeOfLayer_33 : decode b_PI_takeOfLayer 33 = .ok (.istore_n 3, 1) := by decide +kernel
theorem d_PI_takeOfLayer_34 : decode b_PI_takeOfLayer 34 = .ok (.iload_n 3, 1) := by decide +kernel
theorem d_PI_takeOfLayer_35 : decode b_PI_takeOfLayer 35 = .ok (.iconst 4, 1) := by decide +kernel
theorem d_PI_takeOfLayer_36 : decode b_PI_takeOfLayer 36 = .ok (.if_icmp .ge 32, 3) := by decide +kernel
theorem d_PI_takeOfLayer_39 : decode b_PI_takeOfLayer 39 = .ok (.aload_n 0, 1) := by decide +kernel
theorem d_PI_takeOfLayer_40 : decode b_PI_takeOfLayer 40 = .ok (.getfield 18, 3) := by decide +kernel
theorem d_PI_takeOfLayer_43 : decode b_PI_takeOfLayer 43 = .ok (.iload_n 3, 1) := by decide +kernel
theorem d_PI_takeOfLayer_44 : decode b_PI_takeOfLayer 44 = .ok (.dup2, 1) := by decide +kernel
theorem d_PI_takeOfLayer_45 : decode b_PI_takeOfLayer 45 = .ok (.laload, 1) := by decide +kernel
theorem d_PI_takeOfLayer_46 : decode b_PI_takeOfLayer 46 = .ok (.iload_n 2, 1) := by decide +kernel
theorem d_PI_takeOfLayer_47 : decode b_PI_takeOfLayer 47 = .ok (.i2l, 1) := by decide +kernel
theorem d_PI_takeOfLayer_48 : decode b_PI_takeOfLayer 48 = .ok (.aload_n 0, 1) := by decide +kernel
theorem d_PI_takeOfLayer_49 : decode b_PI_takeOfLayer 49 = .ok (.getfield 15, 3) := by decide +kernel
theorem d_PI_takeOfLayer_52 : decode b_PI_takeOfLayer 52 = .ok (.iload_n 1, 1) := by decide +kernel
theorem d_PI_takeOfLayer_53 : decode b_PI_takeOfLayer 53 = .ok (.iconst 4, 1) := by decide +kernel
theorem d_PI_takeOfLayer_54 : decode b_PI_takeOfLayer 54 = .ok (.imul, 1) := by decide +kernel
theorem d_PI_takeOfLayer_55 : decode b_PI_takeOfLayer 55 = .ok (.iload_n 3, 1) := by decide +kernel
theorem d_PI_takeOfLayer_56 : decode b_PI_takeOfLayer 56 = .ok (.iadd, 1) := by decide +kernel
theorem d_PI_takeOfLayer_57 : decode b_PI_takeOfLayer 57 = .ok (.iaload, 1) := by decide +kernel
theorem d_PI_takeOfLayer_58 : decode b_PI_takeOfLayer 58 = .ok (.i2l, 1) := by decide +kernel
theorem d_PI_takeOfLayer_59 : decode b_PI_takeOfLayer 59 = .ok (.lmul, 1) := by decide +kernel
theorem d_PI_takeOfLayer_60 : decode b_PI_takeOfLayer 60 = .ok (.ladd, 1) := by decide +kernel
theorem d_PI_takeOfLayer_61 : decode b_PI_takeOfLayer 61 = .ok (.lastore, 1) := by decide +kernel
theorem d_PI_takeOfLayer_62 : decode b_PI_takeOfLayer 62 = .ok (.iinc 3 1, 3) := by decide +kernel
theorem d_PI_takeOfLayer_65 : decode b_PI_takeOfLayer 65 = .ok (.goto (-31), 3) := by decide +kernel
theorem d_PI_takeOfLayer_68 : decode b_PI_takeOfLayer 68 = .ok (.return_, 1) := by decide +kernel
theorem d_PI_gramsBefore_0 : decode b_PI_gramsBefore 0 = .ok (.aload_n 0, 1) := by decide +kernel
theorem d_PI_gramsBefore_1 : decode b_PI_gramsBefore 1 = .ok (.getfield 67, 3) := by decide +kernel
theorem d_PI_gramsBefore_4 : decode b_PI_gramsBefore 4 = .ok (.iconst 1, 1) := by decide +kernel
theorem d_PI_gramsBefore_5 : decode b_PI_gramsBefore 5 = .ok (.if_icmp .ge 7, 3) := by decide +kernel
theorem d_PI_gramsBefore_8 : decode b_PI_gramsBefore 8 = .ok (.iconst 0, 1) := by decide +kernel
theorem d_PI_gramsBefore_9 : decode b_PI_gramsBefore 9 = .ok (.goto 20, 3) := by decide +kernel
theorem d_PI_gramsBefore_12 : decode b_PI_gramsBefore 12 = .ok (.aload_n 0, 1) := by decide +kernel
theorem d_PI_gramsBefore_13 : decode b_PI_gramsBefore 13 = .ok (.getfield 9, 3) := by decide +kernel
theorem d_PI_gramsBefore_16 : decode b_PI_gramsBefore 16 = .ok (.iload_n 1, 1) := by decide +kernel
theorem d_PI_gramsBefore_17 : decode b_PI_gramsBefore 17 = .ok (.iaload, 1) := by decide +kernel
theorem d_PI_gramsBefore_18 : decode b_PI_gramsBefore 18 = .ok (.i2l, 1) := by decide +kernel
theorem d_PI_gramsBefore_19 : decode b_PI_gramsBefore 19 = .ok (.iload_n 2, 1) := by decide +kernel
theorem d_PI_gramsBefore_20 : decode b_PI_gramsBefore 20 = .ok (.i2l, 1) := by decide +kernel
theorem d_PI_gramsBefore_21 : decode b_PI_gramsBefore 21 = .ok (.lmul, 1) := by decide +kernel
theorem d_PI_gramsBefore_22 : decode b_PI_gramsBefore 22 = .ok (.aload_n 0, 1) := by decide +kernel
theorem d_PI_gramsBefore_23 : decode b_PI_gramsBefore 23 = .ok (.getfield 67, 3) := by decide +kernel
theorem d_PI_gramsBefore_26 : decode b_PI_gramsBefore 26 = .ok (.i2l, 1) := by decide +kernel
theorem d_PI_gramsBefore_27 : decode b_PI_gramsBefore 27 = .ok (.ldiv, 1) := by decide +kernel
theorem d_PI_gramsBefore_28 : decode b_PI_gramsBefore 28 = .ok (.l2i, 1) := by decide +kernel
theorem d_PI_gramsBefore_29 : decode b_PI_gramsBefore 29 = .ok (.ireturn, 1) := by decide +kernel
theorem d_PI_noteGreatest_0 : decode b_PI_noteGreatest 0 = .ok (.aload_n 0, 1) := by decide +kernel
theorem d_PI_noteGreatest_1 : decode b_PI_noteGreatest 1 = .ok (.getfield 25, 3) := by decide +kernel
theorem d_PI_noteGreatest_4 : decode b_PI_noteGreatest 4 = .ok (.iload_n 1, 1) := by decide +kernel
theorem d_PI_noteGreatest_5 : decode b_PI_noteGreatest 5 = .ok (.iaload, 1) := by decide +kernel
theorem d_PI_noteGreatest_6 : decode b_PI_noteGreatest 6 = .ok (.ifCond .eq 33, 3) := by decide +kernel
theorem d_PI_noteGreatest_9 : decode b_PI_noteGreatest 9 = .ok (.aload_n 0, 1) := by decide +kernel
theorem d_PI_noteGreatest_10 : decode b_PI_noteGreatest 10 = .ok (.getfield 18, 3) := by decide +kernel
theorem d_PI_noteGreatest_13 : decode b_PI_noteGreatest 13 = .ok (.iload_n 1, 1) := by decide +kernel
theorem d_PI_noteGreatest_14 : decode b_PI_noteGreatest 14 = .ok (.laload, 1) := by decide +kernel
theorem d_PI_noteGreatest_15 : decode b_PI_noteGreatest 15 = .ok (.aload_n 0, 1) := by decide +kernel
theorem d_PI_noteGreatest_16 : decode b_PI_noteGreatest 16 = .ok (.getfield 25, 3) := by decide +kernel
theorem d_PI_noteGreatest_19 : decode b_PI_noteGreatest 19 = .ok (.iload_n 1, 1) := by decide +kernel
theorem d_PI_noteGreatest_20 : decode b_PI_noteGreatest 20 = .ok (.iaload, 1) := by decide +kernel
theorem d_PI_noteGreatest_21 : decode b_PI_noteGreatest 21 = .ok (.i2l, 1) := by decide +kernel
theorem d_PI_noteGreatest_22 : decode b_PI_noteGreatest 22 = .ok (.lmul, 1) := by decide +kernel
theorem d_PI_noteGreatest_23 : decode b_PI_noteGreatest 23 = .ok (.aload_n 0, 1) := by decide +kernel
theorem d_PI_noteGreatest_24 : decode b_PI_noteGreatest 24 = .ok (.getfield 22, 3) := by decide +kernel
theorem d_PI_noteGreatest_27 : decode b_PI_noteGreatest 27 = .ok (.iload_n 1, 1) := by decide +kernel
theorem d_PI_noteGreatest_28 : decode b_PI_noteGreatest 28 = .ok (.laload, 1) := by decide +kernel
theorem d_PI_noteGreatest_29 : decode b_PI_noteGreatest 29 = .ok (.aload_n 0, 1) := by decide +kernel
theorem d_PI_noteGreatest_30 : decode b_PI_noteGreatest 30 = .ok (.getfield 54, 3) := by decide +kernel
theorem d_PI_noteGreatest_33 : decode b_PI_noteGreatest 33 = .ok (.i2l, 1) := by decide +kernel
theorem d_PI_noteGreatest_34 : decode b_PI_noteGreatest 34 = .ok (.lmul, 1) := by decide +kernel
theorem d_PI_noteGreatest_35 : decode b_PI_noteGreatest 35 = .ok (.lcmp, 1) := by decide +kernel
theorem d_PI_noteGreatest_36 : decode b_PI_noteGreatest 36 = .ok (.ifCond .le 25, 3) := by decide +kernel
theorem d_PI_noteGreatest_39 : decode b_PI_noteGreatest 39 = .ok (.aload_n 0, 1) := by decide +kernel
theorem d_PI_noteGreatest_40 : decode b_PI_noteGreatest 40 = .ok (.getfield 22, 3) := by decide +kernel
theorem d_PI_noteGreatest_43 : decode b_PI_noteGreatest 43 = .ok (.iload_n 1, 1) := by decide +kernel
theorem d_PI_noteGreatest_44 : decode b_PI_noteGreatest 44 = .ok (.aload_n 0, 1) := by decide +kernel
theorem d_PI_noteGreatest_45 : decode b_PI_noteGreatest 45 = .ok (.getfield 18, 3) := by decide +kernel
theorem d_PI_noteGreatest_48 : decode b_PI_noteGreatest 48 = .ok (.iload_n 1, 1) := by decide +kernel
theorem d_PI_noteGreatest_49 : decode b_PI_noteGreatest 49 = .ok (.laload, 1) := by decide +kernel
theorem d_PI_noteGreatest_50 : decode b_PI_noteGreatest 50 = .ok (.lastore, 1) := by decide +kernel
theorem d_PI_noteGreatest_51 : decode b_PI_noteGreatest 51 = .ok (.aload_n 0, 1) := by decide +kernel
theorem d_PI_noteGreatest_52 : decode b_PI_noteGreatest 52 = .ok (.getfield 25, 3) := by decide +kernel
theorem d_PI_noteGreatest_55 : decode b_PI_noteGreatest 55 = .ok (.iload_n 1, 1) := by decide +kernel
theorem d_PI_noteGreatest_56 : decode b_PI_noteGreatest 56 = .ok (.aload_n 0, 1) := by decide +kernel
theorem d_PI_noteGreatest_57 : decode b_PI_noteGreatest 57 = .ok (.getfield 54, 3) := by decide +kernel
theorem d_PI_noteGreatest_60 : decode b_PI_noteGreatest 60 = .ok (.iastore, 1) := by decide +kernel
theorem d_PI_noteGreatest_61 : decode b_PI_noteGreatest 61 = .ok (.return_, 1) := by decide +kernel
theorem d_PI_noteLeast_0 : decode b_PI_noteLeast 0 = .ok (.aload_n 0, 1) := by decide +kernel
theorem d_PI_noteLeast_1 : decode b_PI_noteLeast 1 = .ok (.getfield 31, 3) := by decide +kernel
theorem d_PI_noteLeast_4 : decode b_PI_noteLeast 4 = .ok (.iload_n 1, 1) := by decide +kernel
theorem d_PI_noteLeast_5 : decode b_PI_noteLeast 5 = .ok (.iaload, 1) := by decide +kernel
theorem d_PI_noteLeast_6 : decode b_PI_noteLeast 6 = .ok (.ifCond .eq 33, 3) := by decide +kernel
theorem d_PI_noteLeast_9 : decode b_PI_noteLeast 9 = .ok (.aload_n 0, 1) := by decide +kernel
theorem d_PI_noteLeast_10 : decode b_PI_noteLeast 10 = .ok (.getfield 18, 3) := by decide +kernel
theorem d_PI_noteLeast_13 : decode b_PI_noteLeast 13 = .ok (.iload_n 1, 1) := by decide +kernel
theorem d_PI_noteLeast_14 : decode b_PI_noteLeast 14 = .ok (.laload, 1) := by decide +kernel
theorem d_PI_noteLeast_15 : decode b_PI_noteLeast 15 = .ok (.aload_n 0, 1) := by decide +kernel
theorem d_PI_noteLeast_16 : decode b_PI_noteLeast 16 = .ok (.getfield 31, 3) := by decide +kernel
theorem d_PI_noteLeast_19 : decode b_PI_noteLeast 19 = .ok (.iload_n 1, 1) := by decide +kernel
theorem d_PI_noteLeast_20 : decode b_PI_noteLeast 20 = .ok (.iaload, 1) := by decide +kernel
theorem d_PI_noteLeast_21 : decode b_PI_noteLeast 21 = .ok (.i2l, 1) := by decide +kernel
theorem d_PI_noteLeast_22 : decode b_PI_noteLeast 22 = .ok (.lmul, 1) := by decide +kernel
theorem d_PI_noteLeast_23 : decode b_PI_noteLeast 23 = .ok (.aload_n 0, 1) := by decide +kernel
theorem d_PI_noteLeast_24 : decode b_PI_noteLeast 24 = .ok (.getfield 28, 3) := by decide +kernel
theorem d_PI_noteLeast_27 : decode b_PI_noteLeast 27 = .ok (.iload_n 1, 1) := by decide +kernel
theorem d_PI_noteLeast_28 : decode b_PI_noteLeast 28 = .ok (.laload, 1) := by decide +kernel
theorem d_PI_noteLeast_29 : decode b_PI_noteLeast 29 = .ok (.aload_n 0, 1) := by decide +kernel
theorem d_PI_noteLeast_30 : decode b_PI_noteLeast 30 = .ok (.getfield 54, 3) := by decide +kernel
theorem d_PI_noteLeast_33 : decode b_PI_noteLeast 33 = .ok (.i2l, 1) := by decide +kernel
theorem d_PI_noteLeast_34 : decode b_PI_noteLeast 34 = .ok (.lmul, 1) := by decide +kernel
theorem d_PI_noteLeast_35 : decode b_PI_noteLeast 35 = .ok (.lcmp, 1) := by decide +kernel
theorem d_PI_noteLeast_36 : decode b_PI_noteLeast 36 = .ok (.ifCond .ge 25, 3) := by decide +kernel
theorem d_PI_noteLeast_39 : decode b_PI_noteLeast 39 = .ok (.aload_n 0, 1) := by decide +kernel
theorem d_PI_noteLeast_40 : decode b_PI_noteLeast 40 = .ok (.getfield 28, 3) := by decide +kernel
theorem d_PI_noteLeast_43 : decode b_PI_noteLeast 43 = .ok (.iload_n 1, 1) := by decide +kernel
theorem d_PI_noteLeast_44 : decode b_PI_noteLeast 44 = .ok (.aload_n 0, 1) := by decide +kernel
theorem d_PI_noteLeast_45 : decode b_PI_noteLeast 45 = .ok (.getfield 18, 3) := by decide +kernel
theorem d_PI_noteLeast_48 : decode b_PI_noteLeast 48 = .ok (.iload_n 1, 1) := by decide +kernel
theorem d_PI_noteLeast_49 : decode b_PI_noteLeast 49 = .ok (.laload, 1) := by decide +kernel
theorem d_PI_noteLeast_50 : decode b_PI_noteLeast 50 = .ok (.lastore, 1) := by decide +kernel
theorem d_PI_noteLeast_51 : decode b_PI_noteLeast 51 = .ok (.aload_n 0, 1) := by decide +kernel
theorem d_PI_noteLeast_52 : decode b_PI_noteLeast 52 = .ok (.getfield 31, 3) := by decide +kernel
theorem d_PI_noteLeast_55 : decode b_PI_noteLeast 55 = .ok (.iload_n 1, 1) := by decide +kernel
theorem d_PI_noteLeast_56 : decode b_PI_noteLeast 56 = .ok (.aload_n 0, 1) := by decide +kernel
theorem d_PI_noteLeast_57 : decode b_PI_noteLeast 57 = .ok (.getfield 54, 3) := by decide +kernel
theorem d_PI_noteLeast_60 : decode b_PI_noteLeast 60 = .ok (.iastore, 1) := by decide +kernel
theorem d_PI_noteLeast_61 : decode b_PI_noteLeast 61 = .ok (.return_, 1) := by decide +kernel
theorem d_PI_spreadUpper_0 : decode b_PI_spreadUpper 0 = .ok (.aload_n 0, 1) := by decide +kernel
theorem d_PI_spreadUpper_1 : decode b_PI_spreadUpper 1 = .ok (.getfield 22, 3) := by decide +kernel
theorem d_PI_spreadUpper_4 : decode b_PI_spreadUpper 4 = .ok (.iload_n 1, 1) := by decide +kernel
theorem d_PI_spreadUpper_5 : decode b_PI_spreadUpper 5 = .ok (.laload, 1) := by decide +kernel
theorem d_PI_spreadUpper_6 : decode b_PI_spreadUpper 6 = .ok (.aload_n 0, 1) := by decide +kernel
theorem d_PI_spreadUpper_7 : decode b_PI_spreadUpper 7 = .ok (.getfield 31, 3) := by decide +kernel
theorem d_PI_spreadUpper_10 : decode b_PI_spreadUpper 10 = .ok (.iload_n 1, 1) := by decide +kernel
theorem d_PI_spreadUpper_11 : decode b_PI_spreadUpper 11 = .ok (.iaload, 1) := by decide +kernel
theorem d_PI_spreadUpper_12 : decode b_PI_spreadUpper 12 = .ok (.i2l, 1) := by decide +kernel
theorem d_PI_spreadUpper_13 : decode b_PI_spreadUpper 13 = .ok (.lmul, 1) := by decide +kernel
theorem d_PI_spreadUpper_14 : decode b_PI_spreadUpper 14 = .ok (.aload_n 0, 1) := by decide +kernel
theorem d_PI_spreadUpper_15 : decode b_PI_spreadUpper 15 = .ok (.getfield 28, 3) := by decide +kernel
theorem d_PI_spreadUpper_18 : decode b_PI_spreadUpper 18 = .ok (.iload_n 1, 1) := by decide +kernel
theorem d_PI_spreadUpper_19 : decode b_PI_spreadUpper 19 = .ok (.laload, 1) := by decide +kernel
theorem d_PI_spreadUpper_20 : decode b_PI_spreadUpper 20 = .ok (.aload_n 0, 1) := by decide +kernel
theorem d_PI_spreadUpper_21 : decode b_PI_spreadUpper 21 = .ok (.getfield 25, 3) := by decide +kernel
theorem d_PI_spreadUpper_24 : decode b_PI_spreadUpper 24 = .ok (.iload_n 1, 1) := by decide +kernel
theorem d_PI_spreadUpper_25 : decode b_PI_spreadUpper 25 = .ok (.iaload, 1) := by decide +kernel
theorem d_PI_spreadUpper_26 : decode b_PI_spreadUpper 26 = .ok (.i2l, 1) := by decide +kernel
theorem d_PI_spreadUpper_27 : decode b_PI_spreadUpper 27 = .ok (.lmul, 1) := by decide +kernel
theorem d_PI_spreadUpper_28 : decode b_PI_spreadUpper 28 = .ok (.lsub, 1) := by decide +kernel
theorem d_PI_spreadUpper_29 : decode b_PI_spreadUpper 29 = .ok (.lreturn, 1) := by decide +kernel
theorem d_PI_spreadLower_0 : decode b_PI_spreadLower 0 = .ok (.aload_n 0, 1) := by decide +kernel
theorem d_PI_spreadLower_1 : decode b_PI_spreadLower 1 = .ok (.getfield 25, 3) := by decide +kernel
theorem d_PI_spreadLower_4 : decode b_PI_spreadLower 4 = .ok (.iload_n 1, 1) := by decide +kernel
theorem d_PI_spreadLower_5 : decode b_PI_spreadLower 5 = .ok (.iaload, 1) := by decide +kernel
theorem d_PI_spreadLower_6 : decode b_PI_spreadLower 6 = .ok (.i2l, 1) := by decide +kernel
theorem d_PI_spreadLower_7 : decode b_PI_spreadLower 7 = .ok (.aload_n 0, 1) := by decide +kernel
theorem d_PI_spreadLower_8 : decode b_PI_spreadLower 8 = .ok (.getfield 31, 3) := by decide +kernel
theorem d_PI_spreadLower_11 : decode b_PI_spreadLower 11 = .ok (.iload_n 1, 1) := by decide +kernel
theorem d_PI_spreadLower_12 : decode b_PI_spreadLower 12 = .ok (.iaload, 1) := by decide +kernel
theorem d_PI_spreadLower_13 : decode b_PI_spreadLower 13 = .ok (.i2l, 1) := by decide +kernel
theorem d_PI_spreadLower_14 : decode b_PI_spreadLower 14 = .ok (.lmul, 1) := by decide +kernel
theorem d_PI_spreadLower_15 : decode b_PI_spreadLower 15 = .ok (.lreturn, 1) := by decide +kernel
theorem d_LI_init_0 : decode b_LI_init 0 = .ok (.aload_n 0, 1) := by decide +kernel
theorem d_LI_init_1 : decode b_LI_init 1 = .ok (.invokespecial 1, 3) := by decide +kernel
theorem d_LI_init_4 : decode b_LI_init 4 = .ok (.return_, 1) := by decide +kernel
theorem d_LI_addPoint_0 : decode b_LI_addPoint 0 = .ok (.aload_n 0, 1) := by decide +kernel
theorem d_LI_addPoint_1 : decode b_LI_addPoint 1 = .ok (.dup, 1) := by decide +kernel
theorem d_LI_addPoint_2 : decode b_LI_addPoint 2 = .ok (.getfield 7, 3) := by decide +kernel
theorem d_LI_addPoint_5 : decode b_LI_addPoint 5 = .ok (.iconst 1, 1) := by decide +kernel
theorem d_LI_addPoint_6 : decode b_LI_addPoint 6 = .ok (.iadd, 1) := by decide +kernel
theorem d_LI_addPoint_7 : decode b_LI_addPoint 7 = .ok (.putfield 7, 3) := by decide +kernel
theorem d_LI_addPoint_10 : decode b_LI_addPoint 10 = .ok (.aload_n 0, 1) := by decide +kernel
theorem d_LI_addPoint_11 : decode b_LI_addPoint 11 = .ok (.dup, 1) := by decide +kernel
theorem d_LI_addPoint_12 : decode b_LI_addPoint 12 = .ok (.getfield 13, 3) := by decide +kernel
theorem d_LI_addPoint_15 : decode b_LI_addPoint 15 = .ok (.iload_n 1, 1) := by decide +kernel
theorem d_LI_addPoint_16 : decode b_LI_addPoint 16 = .ok (.i2l, 1) := by decide +kernel
theorem d_LI_addPoint_17 : decode b_LI_addPoint 17 = .ok (.ladd, 1) := by decide +kernel
theorem d_LI_addPoint_18 : decode b_LI_addPoint 18 = .ok (.putfield 13, 3) := by decide +kernel
theorem d_LI_addPoint_21 : decode b_LI_addPoint 21 = .ok (.aload_n 0, 1) := by decide +kernel
theorem d_LI_addPoint_22 : decode b_LI_addPoint 22 = .ok (.dup, 1) := by decide +kernel
theorem d_LI_addPoint_23 : decode b_LI_addPoint 23 = .ok (.getfield 17, 3) := by decide +kernel
theorem d_LI_addPoint_26 : decode b_LI_addPoint 26 = .ok (.iload_n 2, 1) := by decide +kernel
theorem d_LI_addPoint_27 : decode b_LI_addPoint 27 = .ok (.i2l, 1) := by decide +kernel
theorem d_LI_addPoint_28 : decode b_LI_addPoint 28 = .ok (.ladd, 1) := by decide +kernel
theorem d_LI_addPoint_29 : decode b_LI_addPoint 29 = .ok (.putfield 17, 3) := by decide +kernel
theorem d_LI_addPoint_32 : decode b_LI_addPoint 32 = .ok (.aload_n 0, 1) := by decide +kernel
theorem d_LI_addPoint_33 : decode b_LI_addPoint 33 = .ok (.dup, 1) := by decide +kernel
theorem d_LI_addPoint_34 : decode b_LI_addPoint 34 = .ok (.getfield 20, 3) := by decide +kernel
theorem d_LI_addPoint_37 : decode b_LI_addPoint 37 = .ok (.iload_n 1, 1) := by decide +kernel
theorem d_LI_addPoint_38 : decode b_LI_addPoint 38 = .ok (.i2l, 1) := by decide +kernel
theorem d_LI_addPoint_39 : decode b_LI_addPoint 39 = .ok (.iload_n 1, 1) := by decide +kernel
theorem d_LI_addPoint_40 : decode b_LI_addPoint 40 = .ok (.i2l, 1) := by decide +kernel
theorem d_LI_addPoint_41 : decode b_LI_addPoint 41 = .ok (.lmul, 1) := by decide +kernel
theorem d_LI_addPoint_42 : decode b_LI_addPoint 42 = .ok (.ladd, 1) := by decide +kernel
theorem d_LI_addPoint_43 : decode b_LI_addPoint 43 = .ok (.putfield 20, 3) := by decide +kernel
theorem d_LI_addPoint_46 : decode b_LI_addPoint 46 = .ok (.aload_n 0, 1) := by decide +kernel
theorem d_LI_addPoint_47 : decode b_LI_addPoint 47 = .ok (.dup, 1) := by decide +kernel
theorem d_LI_addPoint_48 : decode b_LI_addPoint 48 = .ok (.getfield 23, 3) := by decide +kernel
theorem d_LI_addPoint_51 : decode b_LI_addPoint 51 = .ok (.iload_n 1, 1) := by decide +kernel
theorem d_LI_addPoint_52 : decode b_LI_addPoint 52 = .ok (.i2l, 1) := by decide +kernel
theorem d_LI_addPoint_53 : decode b_LI_addPoint 53 = .ok (.iload_n 2, 1) := by decide +kernel
theorem d_LI_addPoint_54 : decode b_LI_addPoint 54 = .ok (.i2l, 1) := by decide +kernel
theorem d_LI_addPoint_55 : decode b_LI_addPoint 55 = .ok (.lmul, 1) := by decide +kernel
theorem d_LI_addPoint_56 : decode b_LI_addPoint 56 = .ok (.ladd, 1) := by decide +kernel
theorem d_LI_addPoint_57 : decode b_LI_addPoint 57 = .ok (.putfield 23, 3) := by decide +kernel
theorem d_LI_addPoint_60 : decode b_LI_addPoint 60 = .ok (.return_, 1) := by decide +kernel
theorem d_LI_slopeUpper_0 : decode b_LI_slopeUpper 0 = .ok (.aload_n 0, 1) := by decide +kernel
theorem d_LI_slopeUpper_1 : decode b_LI_slopeUpper 1 = .ok (.getfield 7, 3) := by decide +kernel
theorem d_LI_slopeUpper_4 : decode b_LI_slopeUpper 4 = .ok (.i2l, 1) := by decide +kernel
theorem d_LI_slopeUpper_5 : decode b_LI_slopeUpper 5 = .ok (.aload_n 0, 1) := by decide +kernel
theorem d_LI_slopeUpper_6 : decode b_LI_slopeUpper 6 = .ok (.getfield 23, 3) := by decide +kernel
theorem d_LI_slopeUpper_9 : decode b_LI_slopeUpper 9 = .ok (.lmul, 1) := by decide +kernel
theorem d_LI_slopeUpper_10 : decode b_LI_slopeUpper 10 = .ok (.aload_n 0, 1) := by decide +kernel
theorem d_LI_slopeUpper_11 : decode b_LI_slopeUpper 11 = .ok (.getfield 13, 3) := by decide +kernel
theorem d_LI_slopeUpper_14 : decode b_LI_slopeUpper 14 = .ok (.aload_n 0, 1) := by decide +kernel
theorem d_LI_slopeUpper_15 : decode b_LI_slopeUpper 15 = .ok (.getfield 17, 3) := by decide +kernel
theorem d_LI_slopeUpper_18 : decode b_LI_slopeUpper 18 = .ok (.lmul, 1) := by decide +kernel
theorem d_LI_slopeUpper_19 : decode b_LI_slopeUpper 19 = .ok (.lsub, 1) := by decide +kernel
theorem d_LI_slopeUpper_20 : decode b_LI_slopeUpper 20 = .ok (.lreturn, 1) := by decide +kernel
theorem d_LI_heightUpper_0 : decode b_LI_heightUpper 0 = .ok (.aload_n 0, 1) := by decide +kernel
theorem d_LI_heightUpper_1 : decode b_LI_heightUpper 1 = .ok (.getfield 17, 3) := by decide +kernel
theorem d_LI_heightUpper_4 : decode b_LI_heightUpper 4 = .ok (.aload_n 0, 1) := by decide +kernel
theorem d_LI_heightUpper_5 : decode b_LI_heightUpper 5 = .ok (.getfield 20, 3) := by decide +kernel
theorem d_LI_heightUpper_8 : decode b_LI_heightUpper 8 = .ok (.lmul, 1) := by decide +kernel
theorem d_LI_heightUpper_9 : decode b_LI_heightUpper 9 = .ok (.aload_n 0, 1) := by decide +kernel
theorem d_LI_heightUpper_10 : decode b_LI_heightUpper 10 = .ok (.getfield 13, 3) := by decide +kernel
theorem d_LI_heightUpper_13 : decode b_LI_heightUpper 13 = .ok (.aload_n 0, 1) := by decide +kernel
theorem d_LI_heightUpper_14 : decode b_LI_heightUpper 14 = .ok (.getfield 23, 3) := by decide +kernel
theorem d_LI_heightUpper_17 : decode b_LI_heightUpper 17 = .ok (.lmul, 1) := by decide +kernel
theorem d_LI_heightUpper_18 : decode b_LI_heightUpper 18 = .ok (.lsub, 1) := by decide +kernel
theorem d_LI_heightUpper_19 : decode b_LI_heightUpper 19 = .ok (.lreturn, 1) := by decide +kernel
theorem d_LI_lower_0 : decode b_LI_lower 0 = .ok (.aload_n 0, 1) := by decide +kernel
theorem d_LI_lower_1 : decode b_LI_lower 1 = .ok (.getfield 7, 3) := by decide +kernel
theorem d_LI_lower_4 : decode b_LI_lower 4 = .ok (.i2l, 1) := by decide +kernel
theorem d_LI_lower_5 : decode b_LI_lower 5 = .ok (.aload_n 0, 1) := by decide +kernel
theorem d_LI_lower_6 : decode b_LI_lower 6 = .ok (.getfield 20, 3) := by decide +kernel
theorem d_LI_lower_9 : decode b_LI_lower 9 = .ok (.lmul, 1) := by decide +kernel
theorem d_LI_lower_10 : decode b_LI_lower 10 = .ok (.aload_n 0, 1) := by decide +kernel
theorem d_LI_lower_11 : decode b_LI_lower 11 = .ok (.getfield 13, 3) := by decide +kernel
theorem d_LI_lower_14 : decode b_LI_lower 14 = .ok (.aload_n 0, 1) := by decide +kernel
theorem d_LI_lower_15 : decode b_LI_lower 15 = .ok (.getfield 13, 3) := by decide +kernel
theorem d_LI_lower_18 : decode b_LI_lower 18 = .ok (.lmul, 1) := by decide +kernel
theorem d_LI_lower_19 : decode b_LI_lower 19 = .ok (.lsub, 1) := by decide +kernel
theorem d_LI_lower_20 : decode b_LI_lower 20 = .ok (.lreturn, 1) := by decide +kernel
