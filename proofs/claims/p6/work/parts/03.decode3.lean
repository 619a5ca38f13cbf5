theorem dX11_pin_48 : decode cX11_pin 48 = .ok (.iconst 1, 1) := by decide +kernel
theorem dX11_pin_49 : decode cX11_pin 49 = .ok (.iadd, 1) := by decide +kernel
theorem dX11_pin_50 : decode cX11_pin 50 = .ok (.putfield 156, 3) := by decide +kernel
theorem dX11_pin_53 : decode cX11_pin 53 = .ok (.aload_n 0, 1) := by decide +kernel
theorem dX11_pin_54 : decode cX11_pin 54 = .ok (.bipush 46, 2) := by decide +kernel
theorem dX11_pin_56 : decode cX11_pin 56 = .ok (.invokevirtual 207, 3) := by decide +kernel
theorem dX11_pin_59 : decode cX11_pin 59 = .ok (.aload_n 0, 1) := by decide +kernel
theorem dX11_pin_60 : decode cX11_pin 60 = .ok (.ldc2_w 226, 3) := by decide +kernel
theorem dX11_pin_63 : decode cX11_pin 63 = .ok (.invokevirtual 192, 3) := by decide +kernel
theorem dX11_pin_66 : decode cX11_pin 66 = .ok (.ifCond .ne 13, 3) := by decide +kernel
theorem dX11_pin_69 : decode cX11_pin 69 = .ok (.aload_n 0, 1) := by decide +kernel
theorem dX11_pin_70 : decode cX11_pin 70 = .ok (.ldc2_w 228, 3) := by decide +kernel
theorem dX11_pin_73 : decode cX11_pin 73 = .ok (.invokevirtual 192, 3) := by decide +kernel
theorem dX11_pin_76 : decode cX11_pin 76 = .ok (.ifCond .eq 14, 3) := by decide +kernel
theorem dX11_pin_79 : decode cX11_pin 79 = .ok (.aload_n 0, 1) := by decide +kernel
theorem dX11_pin_80 : decode cX11_pin 80 = .ok (.dup, 1) := by decide +kernel
theorem dX11_pin_81 : decode cX11_pin 81 = .ok (.getfield 156, 3) := by decide +kernel
theorem dX11_pin_84 : decode cX11_pin 84 = .ok (.iconst 1, 1) := by decide +kernel
theorem dX11_pin_85 : decode cX11_pin 85 = .ok (.iadd, 1) := by decide +kernel
theorem dX11_pin_86 : decode cX11_pin 86 = .ok (.putfield 156, 3) := by decide +kernel
theorem dX11_pin_89 : decode cX11_pin 89 = .ok (.return_, 1) := by decide +kernel
theorem dX11_pin_90 : decode cX11_pin 90 = .ok (.aload_n 0, 1) := by decide +kernel
theorem dX11_pin_91 : decode cX11_pin 91 = .ok (.iconst 1, 1) := by decide +kernel
theorem dX11_pin_92 : decode cX11_pin 92 = .ok (.bipush 6, 2) := by decide +kernel
theorem dX11_pin_94 : decode cX11_pin 94 = .ok (.invokevirtual 219, 3) := by decide +kernel
theorem dX11_pin_97 : decode cX11_pin 97 = .ok (.istore_n 1, 1) := by decide +kernel
theorem dX11_pin_98 : decode cX11_pin 98 = .ok (.aload_n 0, 1) := by decide +kernel
theorem dX11_pin_99 : decode cX11_pin 99 = .ok (.bipush 43, 2) := by decide +kernel
theorem dX11_pin_101 : decode cX11_pin 101 = .ok (.invokevirtual 186, 3) := by decide +kernel
theorem dX11_pin_104 : decode cX11_pin 104 = .ok (.ifCond .ne 12, 3) := by decide +kernel
theorem dX11_pin_107 : decode cX11_pin 107 = .ok (.aload_n 0, 1) := by decide +kernel
theorem dX11_pin_108 : decode cX11_pin 108 = .ok (.bipush 45, 2) := by decide +kernel
theorem dX11_pin_110 : decode cX11_pin 110 = .ok (.invokevirtual 186, 3) := by decide +kernel
theorem dX11_pin_113 : decode cX11_pin 113 = .ok (.ifCond .eq 13, 3) := by decide +kernel
theorem dX11_pin_116 : decode cX11_pin 116 = .ok (.aload_n 0, 1) := by decide +kernel
theorem dX11_pin_117 : decode cX11_pin 117 = .ok (.dup, 1) := by decide +kernel
theorem dX11_pin_118 : decode cX11_pin 118 = .ok (.getfield 156, 3) := by decide +kernel
theorem dX11_pin_121 : decode cX11_pin 121 = .ok (.iconst 1, 1) := by decide +kernel
theorem dX11_pin_122 : decode cX11_pin 122 = .ok (.iadd, 1) := by decide +kernel
theorem dX11_pin_123 : decode cX11_pin 123 = .ok (.putfield 156, 3) := by decide +kernel
theorem dX11_pin_126 : decode cX11_pin 126 = .ok (.return_, 1) := by decide +kernel
theorem dX11_isAlike_0 : decode cX11_isAlike 0 = .ok (.aload_n 0, 1) := by decide +kernel
theorem dX11_isAlike_1 : decode cX11_isAlike 1 = .ok (.getfield 37, 3) := by decide +kernel
theorem dX11_isAlike_4 : decode cX11_isAlike 4 = .ok (.iload_n 1, 1) := by decide +kernel
theorem dX11_isAlike_5 : decode cX11_isAlike 5 = .ok (.iaload, 1) := by decide +kernel
theorem dX11_isAlike_6 : decode cX11_isAlike 6 = .ok (.aload_n 0, 1) := by decide +kernel
theorem dX11_isAlike_7 : decode cX11_isAlike 7 = .ok (.getfield 23, 3) := by decide +kernel
theorem dX11_isAlike_10 : decode cX11_isAlike 10 = .ok (.iload_n 2, 1) := by decide +kernel
theorem dX11_isAlike_11 : decode cX11_isAlike 11 = .ok (.iaload, 1) := by decide +kernel
theorem dX11_isAlike_12 : decode cX11_isAlike 12 = .ok (.if_icmp .ne 7, 3) := by decide +kernel
theorem dX11_isAlike_15 : decode cX11_isAlike 15 = .ok (.iconst 1, 1) := by decide +kernel
theorem dX11_isAlike_16 : decode cX11_isAlike 16 = .ok (.goto 4, 3) := by decide +kernel
theorem dX11_isAlike_19 : decode cX11_isAlike 19 = .ok (.iconst 0, 1) := by decide +kernel
theorem dX11_isAlike_20 : decode cX11_isAlike 20 = .ok (.istore_n 3, 1) := by decide +kernel
theorem dX11_isAlike_21 : decode cX11_isAlike 21 = .ok (.iconst 0, 1) := by decide +kernel
theorem dX11_isAlike_22 : decode cX11_isAlike 22 = .ok (.istore 4, 2) := by decide +kernel
theorem dX11_isAlike_24 : decode cX11_isAlike 24 = .ok (.iload 4, 2) := by decide +kernel
theorem dX11_isAlike_26 : decode cX11_isAlike 26 = .ok (.aload_n 0, 1) := by decide +kernel
theorem dX11_isAlike_27 : decode cX11_isAlike 27 = .ok (.getfield 23, 3) := by decide +kernel
theorem dX11_isAlike_30 : decode cX11_isAlike 30 = .ok (.iload_n 2, 1) := by decide +kernel
theorem dX11_isAlike_31 : decode cX11_isAlike 31 = .ok (.iaload, 1) := by decide +kernel
theorem dX11_isAlike_32 : decode cX11_isAlike 32 = .ok (.if_icmp .ge 48, 3) := by decide +kernel
theorem dX11_isAlike_35 : decode cX11_isAlike 35 = .ok (.iload_n 3, 1) := by decide +kernel
theorem dX11_isAlike_36 : decode cX11_isAlike 36 = .ok (.ifCond .eq 44, 3) := by decide +kernel
theorem dX11_isAlike_39 : decode cX11_isAlike 39 = .ok (.aload_n 0, 1) := by decide +kernel
theorem dX11_isAlike_40 : decode cX11_isAlike 40 = .ok (.getfield 52, 3) := by decide +kernel
theorem dX11_isAlike_43 : decode cX11_isAlike 43 = .ok (.bipush 8, 2) := by decide +kernel
theorem dX11_isAlike_45 : decode cX11_isAlike 45 = .ok (.iload_n 1, 1) := by decide +kernel
theorem dX11_isAlike_46 : decode cX11_isAlike 46 = .ok (.imul, 1) := by decide +kernel
theorem dX11_isAlike_47 : decode cX11_isAlike 47 = .ok (.iload 4, 2) := by decide +kernel
theorem dX11_isAlike_49 : decode cX11_isAlike 49 = .ok (.iadd, 1) := by decide +kernel
theorem dX11_isAlike_50 : decode cX11_isAlike 50 = .ok (.baload, 1) := by decide +kernel
theorem dX11_isAlike_51 : decode cX11_isAlike 51 = .ok (.aload_n 0, 1) := by decide +kernel
theorem dX11_isAlike_52 : decode cX11_isAlike 52 = .ok (.getfield 13, 3) := by decide +kernel
theorem dX11_isAlike_55 : decode cX11_isAlike 55 = .ok (.aload_n 0, 1) := by decide +kernel
theorem dX11_isAlike_56 : decode cX11_isAlike 56 = .ok (.getfield 20, 3) := by decide +kernel
theorem dX11_isAlike_59 : decode cX11_isAlike 59 = .ok (.iload_n 2, 1) := by decide +kernel
theorem dX11_isAlike_60 : decode cX11_isAlike 60 = .ok (.iaload, 1) := by decide +kernel
theorem dX11_isAlike_61 : decode cX11_isAlike 61 = .ok (.iload 4, 2) := by decide +kernel
theorem dX11_isAlike_63 : decode cX11_isAlike 63 = .ok (.iadd, 1) := by decide +kernel
theorem dX11_isAlike_64 : decode cX11_isAlike 64 = .ok (.baload, 1) := by decide +kernel
theorem dX11_isAlike_65 : decode cX11_isAlike 65 = .ok (.if_icmp .ne 7, 3) := by decide +kernel
theorem dX11_isAlike_68 : decode cX11_isAlike 68 = .ok (.iconst 1, 1) := by decide +kernel
theorem dX11_isAlike_69 : decode cX11_isAlike 69 = .ok (.goto 4, 3) := by decide +kernel
theorem dX11_isAlike_72 : decode cX11_isAlike 72 = .ok (.iconst 0, 1) := by decide +kernel
theorem dX11_isAlike_73 : decode cX11_isAlike 73 = .ok (.istore_n 3, 1) := by decide +kernel
theorem dX11_isAlike_74 : decode cX11_isAlike 74 = .ok (.iinc 4 1, 3) := by decide +kernel
theorem dX11_isAlike_77 : decode cX11_isAlike 77 = .ok (.goto (-53), 3) := by decide +kernel
theorem dX11_isAlike_80 : decode cX11_isAlike 80 = .ok (.iload_n 3, 1) := by decide +kernel
theorem dX11_isAlike_81 : decode cX11_isAlike 81 = .ok (.ireturn, 1) := by decide +kernel
theorem dX11_named_0 : decode cX11_named 0 = .ok (.iconst 0, 1) := by decide +kernel
theorem dX11_named_1 : decode cX11_named 1 = .ok (.istore_n 2, 1) := by decide +kernel
theorem dX11_named_2 : decode cX11_named 2 = .ok (.iload_n 2, 1) := by decide +kernel
theorem dX11_named_3 : decode cX11_named 3 = .ok (.iconst 5, 1) := by decide +kernel
theorem dX11_named_4 : decode cX11_named 4 = .ok (.if_icmp .ge 63, 3) := by decide +kernel
theorem dX11_named_7 : decode cX11_named 7 = .ok (.iconst 0, 1) := by decide +kernel
theorem dX11_named_8 : decode cX11_named 8 = .ok (.istore_n 3, 1) := by decide +kernel
theorem dX11_named_9 : decode cX11_named 9 = .ok (.iload_n 3, 1) := by decide +kernel
theorem dX11_named_10 : decode cX11_named 10 = .ok (.aload_n 0, 1) := by decide +kernel
theorem dX11_named_11 : decode cX11_named 11 = .ok (.getfield 34, 3) := by decide +kernel
theorem dX11_named_14 : decode cX11_named 14 = .ok (.iconst 5, 1) := by decide +kernel
theorem dX11_named_15 : decode cX11_named 15 = .ok (.aload_n 0, 1) := by decide +kernel
theorem dX11_named_16 : decode cX11_named 16 = .ok (.getfield 195, 3) := by decide +kernel
theorem dX11_named_19 : decode cX11_named 19 = .ok (.imul, 1) := by decide +kernel
theorem dX11_named_20 : decode cX11_named 20 = .ok (.iload_n 2, 1) := by decide +kernel
theorem dX11_named_21 : decode cX11_named 21 = .ok (.iadd, 1) := by decide +kernel
theorem dX11_named_22 : decode cX11_named 22 = .ok (.iaload, 1) := by decide +kernel
theorem dX11_named_23 : decode cX11_named 23 = .ok (.if_icmp .ge 38, 3) := by decide +kernel
theorem dX11_named_26 : decode cX11_named 26 = .ok (.aload_n 0, 1) := by decide +kernel
theorem dX11_named_27 : decode cX11_named 27 = .ok (.bipush 116, 2) := by decide +kernel
theorem dX11_named_29 : decode cX11_named 29 = .ok (.aload_n 0, 1) := by decide +kernel
theorem dX11_named_30 : decode cX11_named 30 = .ok (.getfield 195, 3) := by decide +kernel
theorem dX11_named_33 : decode cX11_named 33 = .ok (.imul, 1) := by decide +kernel
theorem dX11_named_34 : decode cX11_named 34 = .ok (.iload_n 2, 1) := by decide +kernel
theorem dX11_named_35 : decode cX11_named 35 = .ok (.invokestatic 216, 3) := by decide +kernel
theorem dX11_named_38 : decode cX11_named 38 = .ok (.iadd, 1) := by decide +kernel
theorem dX11_named_39 : decode cX11_named 39 = .ok (.iload_n 3, 1) := by decide +kernel
theorem dX11_named_40 : decode cX11_named 40 = .ok (.iadd, 1) := by decide +kernel
theorem dX11_named_41 : decode cX11_named 41 = .ok (.iload_n 1, 1) := by decide +kernel
theorem dX11_named_42 : decode cX11_named 42 = .ok (.invokevirtual 230, 3) := by decide +kernel
theorem dX11_named_45 : decode cX11_named 45 = .ok (.ifCond .eq 10, 3) := by decide +kernel
theorem dX11_named_48 : decode cX11_named 48 = .ok (.iload_n 2, 1) := by decide +kernel
theorem dX11_named_49 : decode cX11_named 49 = .ok (.invokestatic 216, 3) := by decide +kernel
theorem dX11_named_52 : decode cX11_named 52 = .ok (.iload_n 3, 1) := by decide +kernel
theorem dX11_named_53 : decode cX11_named 53 = .ok (.iadd, 1) := by decide +kernel
theorem dX11_named_54 : decode cX11_named 54 = .ok (.ireturn, 1) := by decide +kernel
theorem dX11_named_55 : decode cX11_named 55 = .ok (.iinc 3 1, 3) := by decide +kernel
theorem dX11_named_58 : decode cX11_named 58 = .ok (.goto (-49), 3) := by decide +kernel
theorem dX11_named_61 : decode cX11_named 61 = .ok (.iinc 2 1, 3) := by decide +kernel
theorem dX11_named_64 : decode cX11_named 64 = .ok (.goto (-62), 3) := by decide +kernel
theorem dX11_named_67 : decode cX11_named 67 = .ok (.iconst (-1), 1) := by decide +kernel
theorem dX11_named_68 : decode cX11_named 68 = .ok (.ireturn, 1) := by decide +kernel
theorem dX11_sortOf_0 : decode cX11_sortOf 0 = .ok (.iload_n 0, 1) := by decide +kernel
theorem dX11_sortOf_1 : decode cX11_sortOf 1 = .ok (.bipush 40, 2) := by decide +kernel
theorem dX11_sortOf_3 : decode cX11_sortOf 3 = .ok (.if_icmp .ge 7, 3) := by decide +kernel
theorem dX11_sortOf_6 : decode cX11_sortOf 6 = .ok (.iconst 0, 1) := by decide +kernel
theorem dX11_sortOf_7 : decode cX11_sortOf 7 = .ok (.goto 34, 3) := by decide +kernel
theorem dX11_sortOf_10 : decode cX11_sortOf 10 = .ok (.iload_n 0, 1) := by decide +kernel
theorem dX11_sortOf_11 : decode cX11_sortOf 11 = .ok (.bipush 64, 2) := by decide +kernel
theorem dX11_sortOf_13 : decode cX11_sortOf 13 = .ok (.if_icmp .ge 7, 3) := by decide +kernel
theorem dX11_sortOf_16 : decode cX11_sortOf 16 = .ok (.iconst 1, 1) := by decide +kernel
theorem dX11_sortOf_17 : decode cX11_sortOf 17 = .ok (.goto 24, 3) := by decide +kernel
theorem dX11_sortOf_20 : decode cX11_sortOf 20 = .ok (.iload_n 0, 1) := by decide +kernel
theorem dX11_sortOf_21 : decode cX11_sortOf 21 = .ok (.bipush 88, 2) := by decide +kernel
theorem dX11_sortOf_23 : decode cX11_sortOf 23 = .ok (.if_icmp .ge 7, 3) := by decide +kernel
theorem dX11_sortOf_26 : decode cX11_sortOf 26 = .ok (.iconst 2, 1) := by decide +kernel
theorem dX11_sortOf_27 : decode cX11_sortOf 27 = .ok (.goto 14, 3) := by decide +kernel
theorem dX11_sortOf_30 : decode cX11_sortOf 30 = .ok (.iload_n 0, 1) := by decide +kernel
theorem dX11_sortOf_31 : decode cX11_sortOf 31 = .ok (.bipush 92, 2) := by decide +kernel
theorem dX11_sortOf_33 : decode cX11_sortOf 33 = .ok (.if_icmp .ge 7, 3) := by decide +kernel
theorem dX11_sortOf_36 : decode cX11_sortOf 36 = .ok (.iconst 3, 1) := by decide +kernel
theorem dX11_sortOf_37 : decode cX11_sortOf 37 = .ok (.goto 4, 3) := by decide +kernel
theorem dX11_sortOf_40 : decode cX11_sortOf 40 = .ok (.iconst 4, 1) := by decide +kernel
theorem dX11_sortOf_41 : decode cX11_sortOf 41 = .ok (.ireturn, 1) := by decide +kernel
theorem dX11_namesAndWires_0 : decode cX11_namesAndWires 0 = .ok (.aload_n 0, 1) := by decide +kernel
theorem dX11_namesAndWires_1 : decode cX11_namesAndWires 1 = .ok (.iconst 0, 1) := by decide +kernel
theorem dX11_namesAndWires_2 : decode cX11_namesAndWires 2 = .ok (.putfield 156, 3) := by decide +kernel
theorem dX11_namesAndWires_5 : decode cX11_namesAndWires 5 = .ok (.iconst 0, 1) := by decide +kernel
theorem dX11_namesAndWires_6 : decode cX11_namesAndWires 6 = .ok (.istore_n 1, 1) := by decide +kernel
theorem dX11_namesAndWires_7 : decode cX11_namesAndWires 7 = .ok (.iload_n 1, 1) := by decide +kernel
theorem dX11_namesAndWires_8 : decode cX11_namesAndWires 8 = .ok (.iconst 5, 1) := by decide +kernel
theorem dX11_namesAndWires_9 : decode cX11_namesAndWires 9 = .ok (.if_icmp .ge 16, 3) := by decide +kernel
theorem dX11_namesAndWires_12 : decode cX11_namesAndWires 12 = .ok (.aload_n 0, 1) := by decide +kernel
theorem dX11_namesAndWires_13 : decode cX11_namesAndWires 13 = .ok (.getfield 62, 3) := by decide +kernel
theorem dX11_namesAndWires_16 : decode cX11_namesAndWires 16 = .ok (.iload_n 1, 1) := by decide +kernel
theorem dX11_namesAndWires_17 : decode cX11_namesAndWires 17 = .ok (.iconst 0, 1) := by decide +kernel
theorem dX11_namesAndWires_18 : decode cX11_namesAndWires 18 = .ok (.iastore, 1) := by decide +kernel
theorem dX11_namesAndWires_19 : decode cX11_namesAndWires 19 = .ok (.iinc 1 1, 3) := by decide +kernel
theorem dX11_namesAndWires_22 : decode cX11_namesAndWires 22 = .ok (.goto (-15), 3) := by decide +kernel
theorem dX11_namesAndWires_25 : decode cX11_namesAndWires 25 = .ok (.iconst 0, 1) := by decide +kernel
theorem dX11_namesAndWires_26 : decode cX11_namesAndWires 26 = .ok (.istore_n 1, 1) := by decide +kernel
theorem dX11_namesAndWires_27 : decode cX11_namesAndWires 27 = .ok (.iload_n 1, 1) := by decide +kernel
theorem dX11_namesAndWires_28 : decode cX11_namesAndWires 28 = .ok (.sipush 954, 3) := by decide +kernel
theorem dX11_namesAndWires_31 : decode cX11_namesAndWires 31 = .ok (.if_icmp .ge 41, 3) := by decide +kernel
theorem dX11_namesAndWires_34 : decode cX11_namesAndWires 34 = .ok (.aload_n 0, 1) := by decide +kernel
theorem dX11_namesAndWires_35 : decode cX11_namesAndWires 35 = .ok (.getfield 55, 3) := by decide +kernel
theorem dX11_namesAndWires_38 : decode cX11_namesAndWires 38 = .ok (.sipush 954, 3) := by decide +kernel
theorem dX11_namesAndWires_41 : decode cX11_namesAndWires 41 = .ok (.aload_n 0, 1) := by decide +kernel
theorem dX11_namesAndWires_42 : decode cX11_namesAndWires 42 = .ok (.getfield 195, 3) := by decide +kernel
theorem dX11_namesAndWires_45 : decode cX11_namesAndWires 45 = .ok (.imul, 1) := by decide +kernel
theorem dX11_namesAndWires_46 : decode cX11_namesAndWires 46 = .ok (.iload_n 1, 1) := by decide +kernel
theorem dX11_namesAndWires_47 : decode cX11_namesAndWires 47 = .ok (.iadd, 1) := by decide +kernel
theorem dX11_namesAndWires_48 : decode cX11_namesAndWires 48 = .ok (.iload_n 1, 1) := by decide +kernel
theorem dX11_namesAndWires_49 : decode cX11_namesAndWires 49 = .ok (.iastore, 1) := by decide +kernel
theorem dX11_namesAndWires_50 : decode cX11_namesAndWires 50 = .ok (.aload_n 0, 1) := by decide +kernel
theorem dX11_namesAndWires_51 : decode cX11_namesAndWires 51 = .ok (.getfield 58, 3) := by decide +kernel
theorem dX11_namesAndWires_54 : decode cX11_namesAndWires 54 = .ok (.sipush 954, 3) := by decide +kernel
theorem dX11_namesAndWires_57 : decode cX11_namesAndWires 57 = .ok (.aload_n 0, 1) := by decide +kernel
theorem dX11_namesAndWires_58 : decode cX11_namesAndWires 58 = .ok (.getfield 195, 3) := by decide +kernel
theorem dX11_namesAndWires_61 : decode cX11_namesAndWires 61 = .ok (.imul, 1) := by decide +kernel
theorem dX11_namesAndWires_62 : decode cX11_namesAndWires 62 = .ok (.iload_n 1, 1) := by decide +kernel
theorem dX11_namesAndWires_63 : decode cX11_namesAndWires 63 = .ok (.iadd, 1) := by decide +kernel
theorem dX11_namesAndWires_64 : decode cX11_namesAndWires 64 = .ok (.iconst 0, 1) := by decide +kernel
theorem dX11_namesAndWires_65 : decode cX11_namesAndWires 65 = .ok (.bastore, 1) := by decide +kernel
theorem dX11_namesAndWires_66 : decode cX11_namesAndWires 66 = .ok (.iinc 1 1, 3) := by decide +kernel
theorem dX11_namesAndWires_69 : decode cX11_namesAndWires 69 = .ok (.goto (-42), 3) := by decide +kernel
theorem dX11_namesAndWires_72 : decode cX11_namesAndWires 72 = .ok (.aload_n 0, 1) := by decide +kernel
theorem dX11_namesAndWires_73 : decode cX11_namesAndWires 73 = .ok (.getfield 149, 3) := by decide +kernel
theorem dX11_namesAndWires_76 : decode cX11_namesAndWires 76 = .ok (.ifCond .ne 79, 3) := by decide +kernel
theorem dX11_namesAndWires_79 : decode cX11_namesAndWires 79 = .ok (.aload_n 0, 1) := by decide +kernel
theorem dX11_namesAndWires_80 : decode cX11_namesAndWires 80 = .ok (.getfield 16, 3) := by decide +kernel
theorem dX11_namesAndWires_83 : decode cX11_namesAndWires 83 = .ok (.aload_n 0, 1) := by decide +kernel
theorem dX11_namesAndWires_84 : decode cX11_namesAndWires 84 = .ok (.getfield 156, 3) := by decide +kernel
theorem dX11_namesAndWires_87 : decode cX11_namesAndWires 87 = .ok (.iaload, 1) := by decide +kernel
theorem dX11_namesAndWires_88 : decode cX11_namesAndWires 88 = .ok (.ifCond .eq 67, 3) := by decide +kernel
theorem dX11_namesAndWires_91 : decode cX11_namesAndWires 91 = .ok (.aload_n 0, 1) := by decide +kernel
theorem dX11_namesAndWires_92 : decode cX11_namesAndWires 92 = .ok (.invokevirtual 198, 3) := by decide +kernel
theorem dX11_namesAndWires_95 : decode cX11_namesAndWires 95 = .ok (.istore_n 1, 1) := by decide +kernel
theorem dX11_namesAndWires_96 : decode cX11_namesAndWires 96 = .ok (.iload_n 1, 1) := by decide +kernel
theorem dX11_namesAndWires_97 : decode cX11_namesAndWires 97 = .ok (.iconst (-1), 1) := by decide +kernel
theorem dX11_namesAndWires_98 : decode cX11_namesAndWires 98 = .ok (.if_icmp .eq 11, 3) := by decide +kernel
theorem dX11_namesAndWires_101 : decode cX11_namesAndWires 101 = .ok (.aload_n 0, 1) := by decide +kernel
theorem dX11_namesAndWires_102 : decode cX11_namesAndWires 102 = .ok (.iload_n 1, 1) := by decide +kernel
theorem dX11_namesAndWires_103 : decode cX11_namesAndWires 103 = .ok (.invokevirtual 234, 3) := by decide +kernel
theorem dX11_namesAndWires_106 : decode cX11_namesAndWires 106 = .ok (.goto 7, 3) := by decide +kernel
theorem dX11_namesAndWires_109 : decode cX11_namesAndWires 109 = .ok (.aload_n 0, 1) := by decide +kernel
theorem dX11_namesAndWires_110 : decode cX11_namesAndWires 110 = .ok (.invokevirtual 237, 3) := by decide +kernel
theorem dX11_namesAndWires_113 : decode cX11_namesAndWires 113 = .ok (.aload_n 0, 1) := by decide +kernel
theorem dX11_namesAndWires_114 : decode cX11_namesAndWires 114 = .ok (.getfield 149, 3) := by decide +kernel
theorem dX11_namesAndWires_117 : decode cX11_namesAndWires 117 = .ok (.ifCond .ne 25, 3) := by decide +kernel
theorem dX11_namesAndWires_120 : decode cX11_namesAndWires 120 = .ok (.aload_n 0, 1) := by decide +kernel
theorem dX11_namesAndWires_121 : decode cX11_namesAndWires 121 = .ok (.bipush 59, 2) := by decide +kernel
theorem dX11_namesAndWires_123 : decode cX11_namesAndWires 123 = .ok (.invokevirtual 186, 3) := by decide +kernel
theorem dX11_namesAndWires_126 : decode cX11_namesAndWires 126 = .ok (.ifCond .ne 16, 3) := by decide +kernel
theorem dX11_namesAndWires_129 : decode cX11_namesAndWires 129 = .ok (.aload_n 0, 1) := by decide +kernel
theorem dX11_namesAndWires_130 : decode cX11_namesAndWires 130 = .ok (.dup, 1) := by decide +kernel
theorem dX11_namesAndWires_131 : decode cX11_namesAndWires 131 = .ok (.getfield 156, 3) := by decide +kernel
theorem dX11_namesAndWires_134 : decode cX11_namesAndWires 134 = .ok (.iconst 1, 1) := by decide +kernel
theorem dX11_namesAndWires_135 : decode cX11_namesAndWires 135 = .ok (.iadd, 1) := by decide +kernel
theorem dX11_namesAndWires_136 : decode cX11_namesAndWires 136 = .ok (.putfield 156, 3) := by decide +kernel
theorem dX11_namesAndWires_139 : decode cX11_namesAndWires 139 = .ok (.goto (-26), 3) := by decide +kernel
theorem dX11_namesAndWires_142 : decode cX11_namesAndWires 142 = .ok (.aload_n 0, 1) := by decide +kernel
theorem dX11_namesAndWires_143 : decode cX11_namesAndWires 143 = .ok (.dup, 1) := by decide +kernel
theorem dX11_namesAndWires_144 : decode cX11_namesAndWires 144 = .ok (.getfield 156, 3) := by decide +kernel
theorem dX11_namesAndWires_147 : decode cX11_namesAndWires 147 = .ok (.iconst 1, 1) := by decide +kernel
theorem dX11_namesAndWires_148 : decode cX11_namesAndWires 148 = .ok (.iadd, 1) := by decide +kernel
theorem dX11_namesAndWires_149 : decode cX11_namesAndWires 149 = .ok (.putfield 156, 3) := by decide +kernel
theorem dX11_namesAndWires_152 : decode cX11_namesAndWires 152 = .ok (.goto (-80), 3) := by decide +kernel
theorem dX11_namesAndWires_155 : decode cX11_namesAndWires 155 = .ok (.return_, 1) := by decide +kernel
theorem dX11_toldPart_0 : decode cX11_toldPart 0 = .ok (.aload_n 0, 1) := by decide +kernel
theorem dX11_toldPart_1 : decode cX11_toldPart 1 = .ok (.dup, 1) := by decide +kernel
theorem dX11_toldPart_2 : decode cX11_toldPart 2 = .ok (.getfield 156, 3) := by decide +kernel
theorem dX11_toldPart_5 : decode cX11_toldPart 5 = .ok (.iconst 1, 1) := by decide +kernel
theorem dX11_toldPart_6 : decode cX11_toldPart 6 = .ok (.iadd, 1) := by decide +kernel
theorem dX11_toldPart_7 : decode cX11_toldPart 7 = .ok (.putfield 156, 3) := by decide +kernel
theorem dX11_toldPart_10 : decode cX11_toldPart 10 = .ok (.iconst 0, 1) := by decide +kernel
theorem dX11_toldPart_11 : decode cX11_toldPart 11 = .ok (.istore_n 2, 1) := by decide +kernel
theorem dX11_toldPart_12 : decode cX11_toldPart 12 = .ok (.iconst 0, 1) := by decide +kernel
theorem dX11_toldPart_13 : decode cX11_toldPart 13 = .ok (.istore_n 3, 1) := by decide +kernel
theorem dX11_toldPart_14 : decode cX11_toldPart 14 = .ok (.iload_n 3, 1) := by decide +kernel
theorem dX11_toldPart_15 : decode cX11_toldPart 15 = .ok (.iconst 5, 1) := by decide +kernel
theorem dX11_toldPart_16 : decode cX11_toldPart 16 = .ok (.if_icmp .ge 57, 3) := by decide +kernel
theorem dX11_toldPart_19 : decode cX11_toldPart 19 = .ok (.iconst 0, 1) := by decide +kernel
theorem dX11_toldPart_20 : decode cX11_toldPart 20 = .ok (.istore 4, 2) := by decide +kernel
theorem dX11_toldPart_22 : decode cX11_toldPart 22 = .ok (.iload 4, 2) := by decide +kernel
theorem dX11_toldPart_24 : decode cX11_toldPart 24 = .ok (.aload_n 0, 1) := by decide +kernel
theorem dX11_toldPart_25 : decode cX11_toldPart 25 = .ok (.getfield 62, 3) := by decide +kernel
theorem dX11_toldPart_28 : decode cX11_toldPart 28 = .ok (.iload_n 3, 1) := by decide +kernel
theorem dX11_toldPart_29 : decode cX11_toldPart 29 = .ok (.iaload, 1) := by decide +kernel
theorem dX11_toldPart_30 : decode cX11_toldPart 30 = .ok (.if_icmp .ge 37, 3) := by decide +kernel
theorem dX11_toldPart_33 : decode cX11_toldPart 33 = .ok (.iload_n 2, 1) := by decide +kernel
theorem dX11_toldPart_34 : decode cX11_toldPart 34 = .ok (.ifCond .ne 33, 3) := by decide +kernel
theorem dX11_toldPart_37 : decode cX11_toldPart 37 = .ok (.aload_n 0, 1) := by decide +kernel
theorem dX11_toldPart_38 : decode cX11_toldPart 38 = .ok (.bipush 116, 2) := by decide +kernel
theorem dX11_toldPart_40 : decode cX11_toldPart 40 = .ok (.aload_n 0, 1) := by decide +kernel
theorem dX11_toldPart_41 : decode cX11_toldPart 41 = .ok (.getfield 195, 3) := by decide +kernel
theorem dX11_toldPart_44 : decode cX11_toldPart 44 = .ok (.imul, 1) := by decide +kernel
theorem dX11_toldPart_45 : decode cX11_toldPart 45 = .ok (.iload_n 3, 1) := by decide +kernel
theorem dX11_toldPart_46 : decode cX11_toldPart 46 = .ok (.invokestatic 216, 3) := by decide +kernel
theorem dX11_toldPart_49 : decode cX11_toldPart 49 = .ok (.iadd, 1) := by decide +kernel
theorem dX11_toldPart_50 : decode cX11_toldPart 50 = .ok (.iload 4, 2) := by decide +kernel
theorem dX11_toldPart_52 : decode cX11_toldPart 52 = .ok (.iadd, 1) := by decide +kernel
theorem dX11_toldPart_53 : decode cX11_toldPart 53 = .ok (.aload_n 0, 1) := by decide +kernel
theorem dX11_toldPart_54 : decode cX11_toldPart 54 = .ok (.getfield 156, 3) := by decide +kernel
theorem dX11_toldPart_57 : decode cX11_toldPart 57 = .ok (.invokevirtual 230, 3) := by decide +kernel
theorem dX11_toldPart_60 : decode cX11_toldPart 60 = .ok (.istore_n 2, 1) := by decide +kernel
theorem dX11_toldPart_61 : decode cX11_toldPart 61 = .ok (.iinc 4 1, 3) := by decide +kernel
theorem dX11_toldPart_64 : decode cX11_toldPart 64 = .ok (.goto (-42), 3) := by decide +kernel
theorem dX11_toldPart_67 : decode cX11_toldPart 67 = .ok (.iinc 3 1, 3) := by decide +kernel
theorem dX11_toldPart_70 : decode cX11_toldPart 70 = .ok (.goto (-56), 3) := by decide +kernel
theorem dX11_toldPart_73 : decode cX11_toldPart 73 = .ok (.iload_n 2, 1) := by decide +kernel
theorem dX11_toldPart_74 : decode cX11_toldPart 74 = .ok (.ifCond .eq 11, 3) := by decide +kernel
theorem dX11_toldPart_77 : decode cX11_toldPart 77 = .ok (.aload_n 0, 1) := by decide +kernel
theorem dX11_toldPart_78 : decode cX11_toldPart 78 = .ok (.aload_n 0, 1) := by decide +kernel
theorem dX11_toldPart_79 : decode cX11_toldPart 79 = .ok (.getfield 156, 3) := by decide +kernel
theorem dX11_toldPart_82 : decode cX11_toldPart 82 = .ok (.invokevirtual 240, 3) := by decide +kernel
theorem dX11_toldPart_85 : decode cX11_toldPart 85 = .ok (.aload_n 0, 1) := by decide +kernel
theorem dX11_toldPart_86 : decode cX11_toldPart 86 = .ok (.getfield 62, 3) := by decide +kernel
theorem dX11_toldPart_89 : decode cX11_toldPart 89 = .ok (.iload_n 1, 1) := by decide +kernel
theorem dX11_toldPart_90 : decode cX11_toldPart 90 = .ok (.dup2, 1) := by decide +kernel
theorem dX11_toldPart_91 : decode cX11_toldPart 91 = .ok (.iaload, 1) := by decide +kernel
theorem dX11_toldPart_92 : decode cX11_toldPart 92 = .ok (.iconst 1, 1) := by decide +kernel
theorem dX11_toldPart_93 : decode cX11_toldPart 93 = .ok (.iadd, 1) := by decide +kernel
theorem dX11_toldPart_94 : decode cX11_toldPart 94 = .ok (.iastore, 1) := by decide +kernel
theorem dX11_toldPart_95 : decode cX11_toldPart 95 = .ok (.return_, 1) := by decide +kernel
theorem dX11_names_0 : decode cX11_names 0 = .ok (.aload_n 0, 1) := by decide +kernel
theorem dX11_names_1 : decode cX11_names 1 = .ok (.iconst 3, 1) := by decide +kernel
theorem dX11_names_2 : decode cX11_names 2 = .ok (.putfield 149, 3) := by decide +kernel
theorem dX11_names_5 : decode cX11_names 5 = .ok (.aload_n 0, 1) := by decide +kernel
theorem dX11_names_6 : decode cX11_names 6 = .ok (.aload_n 0, 1) := by decide +kernel
theorem dX11_names_7 : decode cX11_names 7 = .ok (.getfield 20, 3) := by decide +kernel
theorem dX11_names_10 : decode cX11_names 10 = .ok (.iload_n 1, 1) := by decide +kernel
theorem dX11_names_11 : decode cX11_names 11 = .ok (.iaload, 1) := by decide +kernel
theorem dX11_names_12 : decode cX11_names 12 = .ok (.putfield 159, 3) := by decide +kernel
theorem dX11_names_15 : decode cX11_names 15 = .ok (.return_, 1) := by decide +kernel
theorem dX11_toldWire_0 : decode cX11_toldWire 0 = .ok (.aload_n 0, 1) := by decide +kernel
theorem dX11_toldWire_1 : decode cX11_toldWire 1 = .ok (.dup, 1) := by decide +kernel
theorem dX11_toldWire_2 : decode cX11_toldWire 2 = .ok (.getfield 156, 3) := by decide +kernel
theorem dX11_toldWire_5 : decode cX11_toldWire 5 = .ok (.iconst 1, 1) := by decide +kernel
theorem dX11_toldWire_6 : decode cX11_toldWire 6 = .ok (.iadd, 1) := by decide +kernel
theorem dX11_toldWire_7 : decode cX11_toldWire 7 = .ok (.putfield 156, 3) := by decide +kernel
theorem dX11_toldWire_10 : decode cX11_toldWire 10 = .ok (.iconst (-1), 1) := by decide +kernel
theorem dX11_toldWire_11 : decode cX11_toldWire 11 = .ok (.istore_n 1, 1) := by decide +kernel
theorem dX11_toldWire_12 : decode cX11_toldWire 12 = .ok (.aload_n 0, 1) := by decide +kernel
theorem dX11_toldWire_13 : decode cX11_toldWire 13 = .ok (.getfield 149, 3) := by decide +kernel
theorem dX11_toldWire_16 : decode cX11_toldWire 16 = .ok (.ifCond .ne 66, 3) := by decide +kernel
theorem dX11_toldWire_19 : decode cX11_toldWire 19 = .ok (.aload_n 0, 1) := by decide +kernel
theorem dX11_toldWire_20 : decode cX11_toldWire 20 = .ok (.bipush 59, 2) := by decide +kernel
theorem dX11_toldWire_22 : decode cX11_toldWire 22 = .ok (.invokevirtual 186, 3) := by decide +kernel
theorem dX11_toldWire_25 : decode cX11_toldWire 25 = .ok (.ifCond .ne 57, 3) := by decide +kernel
theorem dX11_toldWire_28 : decode cX11_toldWire 28 = .ok (.aload_n 0, 1) := by decide +kernel
theorem dX11_toldWire_29 : decode cX11_toldWire 29 = .ok (.invokevirtual 242, 3) := by decide +kernel
theorem dX11_toldWire_32 : decode cX11_toldWire 32 = .ok (.istore_n 2, 1) := by decide +kernel
theorem dX11_toldWire_33 : decode cX11_toldWire 33 = .ok (.iload_n 2, 1) := by decide +kernel
theorem dX11_toldWire_34 : decode cX11_toldWire 34 = .ok (.iconst (-1), 1) := by decide +kernel
theorem dX11_toldWire_35 : decode cX11_toldWire 35 = .ok (.if_icmp .ne 4, 3) := by decide +kernel
theorem dX11_toldWire_38 : decode cX11_toldWire 38 = .ok (.return_, 1) := by decide +kernel
theorem dX11_toldWire_39 : decode cX11_toldWire 39 = .ok (.aload_n 0, 1) := by decide +kernel
theorem dX11_toldWire_40 : decode cX11_toldWire 40 = .ok (.getfield 58, 3) := by decide +kernel
theorem dX11_toldWire_43 : decode cX11_toldWire 43 = .ok (.sipush 954, 3) := by decide +kernel
theorem dX11_toldWire_46 : decode cX11_toldWire 46 = .ok (.aload_n 0, 1) := by decide +kernel
theorem dX11_toldWire_47 : decode cX11_toldWire 47 = .ok (.getfield 195, 3) := by decide +kernel
theorem dX11_toldWire_50 : decode cX11_toldWire 50 = .ok (.imul, 1) := by decide +kernel
theorem dX11_toldWire_51 : decode cX11_toldWire 51 = .ok (.iload_n 2, 1) := by decide +kernel
theorem dX11_toldWire_52 : decode cX11_toldWire 52 = .ok (.iadd, 1) := by decide +kernel
theorem dX11_toldWire_53 : decode cX11_toldWire 53 = .ok (.iconst 1, 1) := by decide +kernel
theorem dX11_toldWire_54 : decode cX11_toldWire 54 = .ok (.bastore, 1) := by decide +kernel
theorem dX11_toldWire_55 : decode cX11_toldWire 55 = .ok (.iload_n 1, 1) := by decide +kernel
theorem dX11_toldWire_56 : decode cX11_toldWire 56 = .ok (.iconst (-1), 1) := by decide +kernel
theorem dX11_toldWire_57 : decode cX11_toldWire 57 = .ok (.if_icmp .ne 8, 3) := by decide +kernel
theorem dX11_toldWire_60 : decode cX11_toldWire 60 = .ok (.iload_n 2, 1) := by decide +kernel
theorem dX11_toldWire_61 : decode cX11_toldWire 61 = .ok (.istore_n 1, 1) := by decide +kernel
theorem dX11_toldWire_62 : decode cX11_toldWire 62 = .ok (.goto 17, 3) := by decide +kernel
theorem dX11_toldWire_65 : decode cX11_toldWire 65 = .ok (.aload_n 0, 1) := by decide +kernel
theorem dX11_toldWire_66 : decode cX11_toldWire 66 = .ok (.sipush 954, 3) := by decide +kernel
theorem dX11_toldWire_69 : decode cX11_toldWire 69 = .ok (.aload_n 0, 1) := by decide +kernel
theorem dX11_toldWire_70 : decode cX11_toldWire 70 = .ok (.getfield 195, 3) := by decide +kernel
theorem dX11_toldWire_73 : decode cX11_toldWire 73 = .ok (.imul, 1) := by decide +kernel
theorem dX11_toldWire_74 : decode cX11_toldWire 74 = .ok (.iload_n 1, 1) := by decide +kernel
theorem dX11_toldWire_75 : decode cX11_toldWire 75 = .ok (.iload_n 2, 1) := by decide +kernel
theorem dX11_toldWire_76 : decode cX11_toldWire 76 = .ok (.invokevirtual 245, 3) := by decide +kernel
theorem dX11_toldWire_79 : decode cX11_toldWire 79 = .ok (.goto (-67), 3) := by decide +kernel
theorem dX11_toldWire_82 : decode cX11_toldWire 82 = .ok (.return_, 1) := by decide +kernel
theorem dX11_end_0 : decode cX11_end 0 = .ok (.aload_n 0, 1) := by decide +kernel
theorem dX11_end_1 : decode cX11_end 1 = .ok (.ldc2_w 178, 3) := by decide +kernel
theorem dX11_end_4 : decode cX11_end 4 = .ok (.invokevirtual 192, 3) := by decide +kernel
theorem dX11_end_7 : decode cX11_end 7 = .ok (.ifCond .ne 13, 3) := by decide +kernel
theorem dX11_end_10 : decode cX11_end 10 = .ok (.aload_n 0, 1) := by decide +kernel
theorem dX11_end_11 : decode cX11_end 11 = .ok (.ldc2_w 180, 3) := by decide +kernel
theorem dX11_end_14 : decode cX11_end 14 = .ok (.invokevirtual 192, 3) := by decide +kernel
theorem dX11_end_17 : decode cX11_end 17 = .ok (.ifCond .eq 37, 3) := by decide +kernel
theorem dX11_end_20 : decode cX11_end 20 = .ok (.aload_n 0, 1) := by decide +kernel
theorem dX11_end_21 : decode cX11_end 21 = .ok (.dup, 1) := by decide +kernel
theorem dX11_end_22 : decode cX11_end 22 = .ok (.getfield 156, 3) := by decide +kernel
theorem dX11_end_25 : decode cX11_end 25 = .ok (.iconst 1, 1) := by decide +kernel
theorem dX11_end_26 : decode cX11_end 26 = .ok (.iadd, 1) := by decide +kernel
theorem dX11_end_27 : decode cX11_end 27 = .ok (.putfield 156, 3) := by decide +kernel
theorem dX11_end_30 : decode cX11_end 30 = .ok (.aload_n 0, 1) := by decide +kernel
theorem dX11_end_31 : decode cX11_end 31 = .ok (.getfield 26, 3) := by decide +kernel
theorem dX11_end_34 : decode cX11_end 34 = .ok (.aload_n 0, 1) := by decide +kernel
theorem dX11_end_35 : decode cX11_end 35 = .ok (.getfield 156, 3) := by decide +kernel
theorem dX11_end_38 : decode cX11_end 38 = .ok (.iconst 1, 1) := by decide +kernel
theorem dX11_end_39 : decode cX11_end 39 = .ok (.isub, 1) := by decide +kernel
theorem dX11_end_40 : decode cX11_end 40 = .ok (.laload, 1) := by decide +kernel
theorem dX11_end_41 : decode cX11_end 41 = .ok (.ldc2_w 178, 3) := by decide +kernel
theorem dX11_end_44 : decode cX11_end 44 = .ok (.lcmp, 1) := by decide +kernel
theorem dX11_end_45 : decode cX11_end 45 = .ok (.ifCond .ne 7, 3) := by decide +kernel
theorem dX11_end_48 : decode cX11_end 48 = .ok (.iconst 0, 1) := by decide +kernel
theorem dX11_end_49 : decode cX11_end 49 = .ok (.goto 4, 3) := by decide +kernel
theorem dX11_end_52 : decode cX11_end 52 = .ok (.iconst 1, 1) := by decide +kernel
theorem dX11_end_53 : decode cX11_end 53 = .ok (.ireturn, 1) := by decide +kernel
theorem dX11_end_54 : decode cX11_end 54 = .ok (.aload_n 0, 1) := by decide +kernel
theorem dX11_end_55 : decode cX11_end 55 = .ok (.getfield 156, 3) := by decide +kernel
theorem dX11_end_58 : decode cX11_end 58 = .ok (.istore_n 1, 1) := by decide +kernel
theorem dX11_end_59 : decode cX11_end 59 = .ok (.aload_n 0, 1) := by decide +kernel
theorem dX11_end_60 : decode cX11_end 60 = .ok (.iload_n 1, 1) := by decide +kernel
theorem dX11_end_61 : decode cX11_end 61 = .ok (.invokevirtual 249, 3) := by decide +kernel
theorem dX11_end_64 : decode cX11_end 64 = .ok (.istore_n 2, 1) := by decide +kernel
theorem dX11_end_65 : decode cX11_end 65 = .ok (.aload_n 0, 1) := by decide +kernel
theorem dX11_end_66 : decode cX11_end 66 = .ok (.dup, 1) := by decide +kernel
theorem dX11_end_67 : decode cX11_end 67 = .ok (.getfield 156, 3) := by decide +kernel
theorem dX11_end_70 : decode cX11_end 70 = .ok (.iconst 2, 1) := by decide +kernel
theorem dX11_end_71 : decode cX11_end 71 = .ok (.iadd, 1) := by decide +kernel
theorem dX11_end_72 : decode cX11_end 72 = .ok (.putfield 156, 3) := by decide +kernel
theorem dX11_end_75 : decode cX11_end 75 = .ok (.aload_n 0, 1) := by decide +kernel
theorem dX11_end_76 : decode cX11_end 76 = .ok (.getfield 16, 3) := by decide +kernel
theorem dX11_end_79 : decode cX11_end 79 = .ok (.aload_n 0, 1) := by decide +kernel
theorem dX11_end_80 : decode cX11_end 80 = .ok (.getfield 156, 3) := by decide +kernel
theorem dX11_end_83 : decode cX11_end 83 = .ok (.iaload, 1) := by decide +kernel
theorem dX11_end_84 : decode cX11_end 84 = .ok (.iconst 1, 1) := by decide +kernel
theorem dX11_end_85 : decode cX11_end 85 = .ok (.if_icmp .ne 7, 3) := by decide +kernel
theorem dX11_end_88 : decode cX11_end 88 = .ok (.iconst 1, 1) := by decide +kernel
theorem dX11_end_89 : decode cX11_end 89 = .ok (.goto 4, 3) := by decide +kernel
theorem dX11_end_92 : decode cX11_end 92 = .ok (.iconst 0, 1) := by decide +kernel
theorem dX11_end_93 : decode cX11_end 93 = .ok (.istore_n 3, 1) := by decide +kernel
theorem dX11_end_94 : decode cX11_end 94 = .ok (.aload_n 0, 1) := by decide +kernel
theorem dX11_end_95 : decode cX11_end 95 = .ok (.getfield 26, 3) := by decide +kernel
theorem dX11_end_98 : decode cX11_end 98 = .ok (.aload_n 0, 1) := by decide +kernel
theorem dX11_end_99 : decode cX11_end 99 = .ok (.getfield 156, 3) := by decide +kernel
theorem dX11_end_102 : decode cX11_end 102 = .ok (.laload, 1) := by decide +kernel
theorem dX11_end_103 : decode cX11_end 103 = .ok (.lstore 4, 2) := by decide +kernel
theorem dX11_end_105 : decode cX11_end 105 = .ok (.aload_n 0, 1) := by decide +kernel
theorem dX11_end_106 : decode cX11_end 106 = .ok (.dup, 1) := by decide +kernel
theorem dX11_end_107 : decode cX11_end 107 = .ok (.getfield 156, 3) := by decide +kernel
theorem dX11_end_110 : decode cX11_end 110 = .ok (.iconst 1, 1) := by decide +kernel
theorem dX11_end_111 : decode cX11_end 111 = .ok (.iadd, 1) := by decide +kernel
theorem dX11_end_112 : decode cX11_end 112 = .ok (.putfield 156, 3) := by decide +kernel
theorem dX11_end_115 : decode cX11_end 115 = .ok (.aload_n 0, 1) := by decide +kernel
theorem dX11_end_116 : decode cX11_end 116 = .ok (.bipush 43, 2) := by decide +kernel
theorem dX11_end_118 : decode cX11_end 118 = .ok (.invokevirtual 186, 3) := by decide +kernel
theorem dX11_end_121 : decode cX11_end 121 = .ok (.ifCond .eq 7, 3) := by decide +kernel
theorem dX11_end_124 : decode cX11_end 124 = .ok (.iconst 1, 1) := by decide +kernel
theorem dX11_end_125 : decode cX11_end 125 = .ok (.goto 17, 3) := by decide +kernel
theorem dX11_end_128 : decode cX11_end 128 = .ok (.aload_n 0, 1) := by decide +kernel
theorem dX11_end_129 : decode cX11_end 129 = .ok (.bipush 45, 2) := by decide +kernel
theorem dX11_end_131 : decode cX11_end 131 = .ok (.invokevirtual 186, 3) := by decide +kernel
theorem dX11_end_134 : decode cX11_end 134 = .ok (.ifCond .eq 7, 3) := by decide +kernel
theorem dX11_end_137 : decode cX11_end 137 = .ok (.iconst 2, 1) := by decide +kernel
theorem dX11_end_138 : decode cX11_end 138 = .ok (.goto 4, 3) := by decide +kernel
theorem dX11_end_141 : decode cX11_end 141 = .ok (.iconst 0, 1) := by decide +kernel
theorem dX11_end_142 : decode cX11_end 142 = .ok (.istore 6, 2) := by decide +kernel
theorem dX11_end_144 : decode cX11_end 144 = .ok (.iload_n 3, 1) := by decide +kernel
theorem dX11_end_145 : decode cX11_end 145 = .ok (.ifCond .ne 18, 3) := by decide +kernel
theorem dX11_end_148 : decode cX11_end 148 = .ok (.iload 6, 2) := by decide +kernel
theorem dX11_end_150 : decode cX11_end 150 = .ok (.ifCond .le 13, 3) := by decide +kernel
theorem dX11_end_153 : decode cX11_end 153 = .ok (.aload_n 0, 1) := by decide +kernel
theorem dX11_end_154 : decode cX11_end 154 = .ok (.dup, 1) := by decide +kernel
theorem dX11_end_155 : decode cX11_end 155 = .ok (.getfield 156, 3) := by decide +kernel
theorem dX11_end_158 : decode cX11_end 158 = .ok (.iconst 1, 1) := by decide +kernel
theorem dX11_end_159 : decode cX11_end 159 = .ok (.iadd, 1) := by decide +kernel
theorem dX11_end_160 : decode cX11_end 160 = .ok (.putfield 156, 3) := by decide +kernel
theorem dX11_end_163 : decode cX11_end 163 = .ok (.iload_n 2, 1) := by decide +kernel
theorem dX11_end_164 : decode cX11_end 164 = .ok (.iconst (-1), 1) := by decide +kernel
theorem dX11_end_165 : decode cX11_end 165 = .ok (.if_icmp .ne 10, 3) := by decide +kernel
theorem dX11_end_168 : decode cX11_end 168 = .ok (.aload_n 0, 1) := by decide +kernel
theorem dX11_end_169 : decode cX11_end 169 = .ok (.iload_n 1, 1) := by decide +kernel
theorem dX11_end_170 : decode cX11_end 170 = .ok (.invokevirtual 240, 3) := by decide +kernel
theorem dX11_end_173 : decode cX11_end 173 = .ok (.iconst (-1), 1) := by decide +kernel
theorem dX11_end_174 : decode cX11_end 174 = .ok (.ireturn, 1) := by decide +kernel
theorem dX11_end_175 : decode cX11_end 175 = .ok (.iload_n 2, 1) := by decide +kernel
theorem dX11_end_176 : decode cX11_end 176 = .ok (.invokestatic 252, 3) := by decide +kernel
theorem dX11_end_179 : decode cX11_end 179 = .ok (.istore 7, 2) := by decide +kernel
theorem dX11_end_181 : decode cX11_end 181 = .ok (.iload_n 2, 1) := by decide +kernel
theorem dX11_end_182 : decode cX11_end 182 = .ok (.iload 7, 2) := by decide +kernel
theorem dX11_end_184 : decode cX11_end 184 = .ok (.invokestatic 216, 3) := by decide +kernel
theorem dX11_end_187 : decode cX11_end 187 = .ok (.isub, 1) := by decide +kernel
theorem dX11_end_188 : decode cX11_end 188 = .ok (.istore 8, 2) := by decide +kernel
theorem dX11_end_190 : decode cX11_end 190 = .ok (.iload_n 3, 1) := by decide +kernel
theorem dX11_end_191 : decode cX11_end 191 = .ok (.ifCond .eq 38, 3) := by decide +kernel
theorem dX11_end_194 : decode cX11_end 194 = .ok (.iload 7, 2) := by decide +kernel
theorem dX11_end_196 : decode cX11_end 196 = .ok (.ifCond .ne 26, 3) := by decide +kernel
theorem dX11_end_199 : decode cX11_end 199 = .ok (.iconst 2, 1) := by decide +kernel
theorem dX11_end_200 : decode cX11_end 200 = .ok (.bipush 20, 2) := by decide +kernel
theorem dX11_end_202 : decode cX11_end 202 = .ok (.iload 8, 2) := by decide +kernel
theorem dX11_end_204 : decode cX11_end 204 = .ok (.imul, 1) := by decide +kernel
theorem dX11_end_205 : decode cX11_end 205 = .ok (.iadd, 1) := by decide +kernel
theorem dX11_end_206 : decode cX11_end 206 = .ok (.lload 4, 2) := by decide +kernel
theorem dX11_end_208 : decode cX11_end 208 = .ok (.ldc2_w 226, 3) := by decide +kernel
theorem dX11_end_211 : decode cX11_end 211 = .ok (.lcmp, 1) := by decide +kernel
theorem dX11_end_212 : decode cX11_end 212 = .ok (.ifCond .ne 7, 3) := by decide +kernel
theorem dX11_end_215 : decode cX11_end 215 = .ok (.iconst 0, 1) := by decide +kernel
theorem dX11_end_216 : decode cX11_end 216 = .ok (.goto 4, 3) := by decide +kernel
theorem dX11_end_219 : decode cX11_end 219 = .ok (.iconst 1, 1) := by decide +kernel
theorem dX11_end_220 : decode cX11_end 220 = .ok (.iadd, 1) := by decide +kernel
theorem dX11_end_221 : decode cX11_end 221 = .ok (.ireturn, 1) := by decide +kernel
theorem dX11_end_222 : decode cX11_end 222 = .ok (.aload_n 0, 1) := by decide +kernel
theorem dX11_end_223 : decode cX11_end 223 = .ok (.iload_n 1, 1) := by decide +kernel
theorem dX11_end_224 : decode cX11_end 224 = .ok (.invokevirtual 240, 3) := by decide +kernel
theorem dX11_end_227 : decode cX11_end 227 = .ok (.iconst (-1), 1) := by decide +kernel
theorem dX11_end_228 : decode cX11_end 228 = .ok (.ireturn, 1) := by decide +kernel
theorem dX11_end_229 : decode cX11_end 229 = .ok (.lload 4, 2) := by decide +kernel
theorem dX11_end_231 : decode cX11_end 231 = .ok (.l2i, 1) := by decide +kernel
theorem dX11_end_232 : decode cX11_end 232 = .ok (.istore 9, 2) := by decide +kernel
theorem dX11_end_234 : decode cX11_end 234 = .ok (.iload 7, 2) := by decide +kernel
theorem dX11_end_236 : decode cX11_end 236 = .ok (.ifCond .ne 30, 3) := by decide +kernel
theorem dX11_end_239 : decode cX11_end 239 = .ok (.iload 9, 2) := by decide +kernel
theorem dX11_end_241 : decode cX11_end 241 = .ok (.aload_n 0, 1) := by decide +kernel
theorem dX11_end_242 : decode cX11_end 242 = .ok (.getfield 46, 3) := by decide +kernel
theorem dX11_end_245 : decode cX11_end 245 = .ok (.bipush 116, 2) := by decide +kernel
theorem dX11_end_247 : decode cX11_end 247 = .ok (.aload_n 0, 1) := by decide +kernel
theorem dX11_end_248 : decode cX11_end 248 = .ok (.getfield 195, 3) := by decide +kernel
theorem dX11_end_251 : decode cX11_end 251 = .ok (.imul, 1) := by decide +kernel
theorem dX11_end_252 : decode cX11_end 252 = .ok (.iload_n 2, 1) := by decide +kernel
theorem dX11_end_253 : decode cX11_end 253 = .ok (.iadd, 1) := by decide +kernel
theorem dX11_end_254 : decode cX11_end 254 = .ok (.iaload, 1) := by decide +kernel
theorem dX11_end_255 : decode cX11_end 255 = .ok (.if_icmp .gt 7, 3) := by decide +kernel
theorem dX11_end_258 : decode cX11_end 258 = .ok (.iconst 1, 1) := by decide +kernel
theorem dX11_end_259 : decode cX11_end 259 = .ok (.goto 23, 3) := by decide +kernel
theorem dX11_end_262 : decode cX11_end 262 = .ok (.iconst 0, 1) := by decide +kernel
theorem dX11_end_263 : decode cX11_end 263 = .ok (.goto 19, 3) := by decide +kernel
theorem dX11_end_266 : decode cX11_end 266 = .ok (.iload 9, 2) := by decide +kernel
theorem dX11_end_268 : decode cX11_end 268 = .ok (.iconst 2, 1) := by decide +kernel
theorem dX11_end_269 : decode cX11_end 269 = .ok (.if_icmp .gt 12, 3) := by decide +kernel
theorem dX11_end_272 : decode cX11_end 272 = .ok (.iload 6, 2) := by decide +kernel
theorem dX11_end_274 : decode cX11_end 274 = .ok (.ifCond .ne 7, 3) := by decide +kernel
theorem dX11_end_277 : decode cX11_end 277 = .ok (.iconst 1, 1) := by decide +kernel
theorem dX11_end_278 : decode cX11_end 278 = .ok (.goto 4, 3) := by decide +kernel
theorem dX11_end_281 : decode cX11_end 281 = .ok (.iconst 0, 1) := by decide +kernel
theorem dX11_end_282 : decode cX11_end 282 = .ok (.istore 10, 2) := by decide +kernel
theorem dX11_end_284 : decode cX11_end 284 = .ok (.iload 10, 2) := by decide +kernel
theorem dX11_end_286 : decode cX11_end 286 = .ok (.ifCond .ne 10, 3) := by decide +kernel
theorem dX11_end_289 : decode cX11_end 289 = .ok (.aload_n 0, 1) := by decide +kernel
theorem dX11_end_290 : decode cX11_end 290 = .ok (.iload_n 1, 1) := by decide +kernel
theorem dX11_end_291 : decode cX11_end 291 = .ok (.invokevirtual 240, 3) := by decide +kernel
theorem dX11_end_294 : decode cX11_end 294 = .ok (.iconst (-1), 1) := by decide +kernel
theorem dX11_end_295 : decode cX11_end 295 = .ok (.ireturn, 1) := by decide +kernel
theorem dX11_end_296 : decode cX11_end 296 = .ok (.iload 7, 2) := by decide +kernel
theorem dX11_end_298 : decode cX11_end 298 = .ok (.ifCond .ne 23, 3) := by decide +kernel
theorem dX11_end_301 : decode cX11_end 301 = .ok (.iconst 2, 1) := by decide +kernel
theorem dX11_end_302 : decode cX11_end 302 = .ok (.bipush 20, 2) := by decide +kernel
theorem dX11_end_304 : decode cX11_end 304 = .ok (.iload 8, 2) := by decide +kernel
theorem dX11_end_306 : decode cX11_end 306 = .ok (.imul, 1) := by decide +kernel
theorem dX11_end_307 : decode cX11_end 307 = .ok (.iadd, 1) := by decide +kernel
theorem dX11_end_308 : decode cX11_end 308 = .ok (.iconst 3, 1) := by decide +kernel
theorem dX11_end_309 : decode cX11_end 309 = .ok (.iload 9, 2) := by decide +kernel
theorem dX11_end_311 : decode cX11_end 311 = .ok (.imul, 1) := by decide +kernel
theorem dX11_end_312 : decode cX11_end 312 = .ok (.iadd, 1) := by decide +kernel
theorem dX11_end_313 : decode cX11_end 313 = .ok (.iconst 1, 1) := by decide +kernel
theorem dX11_end_314 : decode cX11_end 314 = .ok (.isub, 1) := by decide +kernel
theorem dX11_end_315 : decode cX11_end 315 = .ok (.iload 6, 2) := by decide +kernel
theorem dX11_end_317 : decode cX11_end 317 = .ok (.iadd, 1) := by decide +kernel
theorem dX11_end_318 : decode cX11_end 318 = .ok (.goto 18, 3) := by decide +kernel
theorem dX11_end_321 : decode cX11_end 321 = .ok (.iload 7, 2) := by decide +kernel
theorem dX11_end_323 : decode cX11_end 323 = .ok (.invokestatic 255, 3) := by decide +kernel
theorem dX11_end_326 : decode cX11_end 326 = .ok (.iconst 2, 1) := by decide +kernel
theorem dX11_end_327 : decode cX11_end 327 = .ok (.iload 8, 2) := by decide +kernel
theorem dX11_end_329 : decode cX11_end 329 = .ok (.imul, 1) := by decide +kernel
theorem dX11_end_330 : decode cX11_end 330 = .ok (.iadd, 1) := by decide +kernel
theorem dX11_end_331 : decode cX11_end 331 = .ok (.iload 9, 2) := by decide +kernel
theorem dX11_end_333 : decode cX11_end 333 = .ok (.iadd, 1) := by decide +kernel
theorem dX11_end_334 : decode cX11_end 334 = .ok (.iconst 1, 1) := by decide +kernel
theorem dX11_end_335 : decode cX11_end 335 = .ok (.isub, 1) := by decide +kernel
theorem dX11_end_336 : decode cX11_end 336 = .ok (.ireturn, 1) := by decide +kernel
theorem dX11_rootOf_0 : decode cX11_rootOf 0 = .ok (.iload_n 2, 1) := by decide +kernel
theorem dX11_rootOf_1 : decode cX11_rootOf 1 = .ok (.istore_n 3, 1) := by decide +kernel
theorem dX11_rootOf_2 : decode cX11_rootOf 2 = .ok (.aload_n 0, 1) := by decide +kernel
theorem dX11_rootOf_3 : decode cX11_rootOf 3 = .ok (.getfield 55, 3) := by decide +kernel
theorem dX11_rootOf_6 : decode cX11_rootOf 6 = .ok (.iload_n 1, 1) := by decide +kernel
theorem dX11_rootOf_7 : decode cX11_rootOf 7 = .ok (.iload_n 3, 1) := by decide +kernel
theorem dX11_rootOf_8 : decode cX11_rootOf 8 = .ok (.iadd, 1) := by decide +kernel
theorem dX11_rootOf_9 : decode cX11_rootOf 9 = .ok (.iaload, 1) := by decide +kernel
theorem dX11_rootOf_10 : decode cX11_rootOf 10 = .ok (.iload_n 3, 1) := by decide +kernel
theorem dX11_rootOf_11 : decode cX11_rootOf 11 = .ok (.if_icmp .eq 15, 3) := by decide +kernel
theorem dX11_rootOf_14 : decode cX11_rootOf 14 = .ok (.aload_n 0, 1) := by decide +kernel
theorem dX11_rootOf_15 : decode cX11_rootOf 15 = .ok (.getfield 55, 3) := by decide +kernel
theorem dX11_rootOf_18 : decode cX11_rootOf 18 = .ok (.iload_n 1, 1) := by decide +kernel
theorem dX11_rootOf_19 : decode cX11_rootOf 19 = .ok (.iload_n 3, 1) := by decide +kernel
theorem dX11_rootOf_20 : decode cX11_rootOf 20 = .ok (.iadd, 1) := by decide +kernel
theorem dX11_rootOf_21 : decode cX11_rootOf 21 = .ok (.iaload, 1) := by decide +kernel
theorem dX11_rootOf_22 : decode cX11_rootOf 22 = .ok (.istore_n 3, 1) := by decide +kernel
theorem dX11_rootOf_23 : decode cX11_rootOf 23 = .ok (.goto (-21), 3) := by decide +kernel
theorem dX11_rootOf_26 : decode cX11_rootOf 26 = .ok (.iload_n 3, 1) := by decide +kernel
theorem dX11_rootOf_27 : decode cX11_rootOf 27 = .ok (.ireturn, 1) := by decide +kernel
theorem dX11_join_0 : decode cX11_join 0 = .ok (.aload_n 0, 1) := by decide +kernel
theorem dX11_join_1 : decode cX11_join 1 = .ok (.iload_n 1, 1) := by decide +kernel
theorem dX11_join_2 : decode cX11_join 2 = .ok (.iload_n 2, 1) := by decide +kernel
theorem dX11_join_3 : decode cX11_join 3 = .ok (.invokevirtual 258, 3) := by decide +kernel
theorem dX11_join_6 : decode cX11_join 6 = .ok (.istore 4, 2) := by decide +kernel
theorem dX11_join_8 : decode cX11_join 8 = .ok (.aload_n 0, 1) := by decide +kernel
theorem dX11_join_9 : decode cX11_join 9 = .ok (.iload_n 1, 1) := by decide +kernel
theorem dX11_join_10 : decode cX11_join 10 = .ok (.iload_n 3, 1) := by decide +kernel
theorem dX11_join_11 : decode cX11_join 11 = .ok (.invokevirtual 258, 3) := by decide +kernel
theorem dX11_join_14 : decode cX11_join 14 = .ok (.istore 5, 2) := by decide +kernel
theorem dX11_join_16 : decode cX11_join 16 = .ok (.iload 4, 2) := by decide +kernel
theorem dX11_join_18 : decode cX11_join 18 = .ok (.iload 5, 2) := by decide +kernel
theorem dX11_join_20 : decode cX11_join 20 = .ok (.if_icmp .eq 24, 3) := by decide +kernel
theorem dX11_join_23 : decode cX11_join 23 = .ok (.aload_n 0, 1) := by decide +kernel
theorem dX11_join_24 : decode cX11_join 24 = .ok (.getfield 55, 3) := by decide +kernel
theorem dX11_join_27 : decode cX11_join 27 = .ok (.iload_n 1, 1) := by decide +kernel
theorem dX11_join_28 : decode cX11_join 28 = .ok (.iload 4, 2) := by decide +kernel
theorem dX11_join_30 : decode cX11_join 30 = .ok (.iload 5, 2) := by decide +kernel
theorem dX11_join_32 : decode cX11_join 32 = .ok (.invokestatic 261, 3) := by decide +kernel
theorem dX11_join_35 : decode cX11_join 35 = .ok (.iadd, 1) := by decide +kernel
theorem dX11_join_36 : decode cX11_join 36 = .ok (.iload 4, 2) := by decide +kernel
theorem dX11_join_38 : decode cX11_join 38 = .ok (.iload 5, 2) := by decide +kernel
theorem dX11_join_40 : decode cX11_join 40 = .ok (.invokestatic 266, 3) := by decide +kernel
theorem dX11_join_43 : decode cX11_join 43 = .ok (.iastore, 1) := by decide +kernel
theorem dX11_join_44 : decode cX11_join 44 = .ok (.return_, 1) := by decide +kernel
theorem dX11_reads_0 : decode cX11_reads 0 = .ok (.aload_n 0, 1) := by decide +kernel
theorem dX11_reads_1 : decode cX11_reads 1 = .ok (.iconst 1, 1) := by decide +kernel
theorem dX11_reads_2 : decode cX11_reads 2 = .ok (.aload_n 0, 1) := by decide +kernel
theorem dX11_reads_3 : decode cX11_reads 3 = .ok (.getfield 269, 3) := by decide +kernel
theorem dX11_reads_6 : decode cX11_reads 6 = .ok (.isub, 1) := by decide +kernel
theorem dX11_reads_7 : decode cX11_reads 7 = .ok (.putfield 195, 3) := by decide +kernel
theorem dX11_reads_10 : decode cX11_reads 10 = .ok (.aload_n 0, 1) := by decide +kernel
theorem dX11_reads_11 : decode cX11_reads 11 = .ok (.invokevirtual 272, 3) := by decide +kernel
theorem dX11_reads_14 : decode cX11_reads 14 = .ok (.aload_n 0, 1) := by decide +kernel
theorem dX11_reads_15 : decode cX11_reads 15 = .ok (.invokevirtual 275, 3) := by decide +kernel
theorem dX11_reads_18 : decode cX11_reads 18 = .ok (.aload_n 0, 1) := by decide +kernel
theorem dX11_reads_19 : decode cX11_reads 19 = .ok (.getfield 149, 3) := by decide +kernel
theorem dX11_reads_22 : decode cX11_reads 22 = .ok (.ifCond .ne 7, 3) := by decide +kernel
theorem dX11_reads_25 : decode cX11_reads 25 = .ok (.aload_n 0, 1) := by decide +kernel
theorem dX11_reads_26 : decode cX11_reads 26 = .ok (.invokevirtual 278, 3) := by decide +kernel
theorem dX11_reads_29 : decode cX11_reads 29 = .ok (.aload_n 0, 1) := by decide +kernel
theorem dX11_reads_30 : decode cX11_reads 30 = .ok (.getfield 149, 3) := by decide +kernel
theorem dX11_reads_33 : decode cX11_reads 33 = .ok (.ifCond .le 8, 3) := by decide +kernel
theorem dX11_reads_36 : decode cX11_reads 36 = .ok (.aload_n 0, 1) := by decide +kernel
theorem dX11_reads_37 : decode cX11_reads 37 = .ok (.getfield 149, 3) := by decide +kernel
theorem dX11_reads_40 : decode cX11_reads 40 = .ok (.ireturn, 1) := by decide +kernel
theorem dX11_reads_41 : decode cX11_reads 41 = .ok (.iconst 0, 1) := by decide +kernel
theorem dX11_reads_42 : decode cX11_reads 42 = .ok (.istore_n 1, 1) := by decide +kernel
theorem dX11_reads_43 : decode cX11_reads 43 = .ok (.iload_n 1, 1) := by decide +kernel
theorem dX11_reads_44 : decode cX11_reads 44 = .ok (.sipush 954, 3) := by decide +kernel
theorem dX11_reads_47 : decode cX11_reads 47 = .ok (.if_icmp .ge 37, 3) := by decide +kernel
theorem dX11_reads_50 : decode cX11_reads 50 = .ok (.aload_n 0, 1) := by decide +kernel
theorem dX11_reads_51 : decode cX11_reads 51 = .ok (.getfield 55, 3) := by decide +kernel
theorem dX11_reads_54 : decode cX11_reads 54 = .ok (.sipush 954, 3) := by decide +kernel
theorem dX11_reads_57 : decode cX11_reads 57 = .ok (.aload_n 0, 1) := by decide +kernel
theorem dX11_reads_58 : decode cX11_reads 58 = .ok (.getfield 195, 3) := by decide +kernel
theorem dX11_reads_61 : decode cX11_reads 61 = .ok (.imul, 1) := by decide +kernel
theorem dX11_reads_62 : decode cX11_reads 62 = .ok (.iload_n 1, 1) := by decide +kernel
theorem dX11_reads_63 : decode cX11_reads 63 = .ok (.iadd, 1) := by decide +kernel
theorem dX11_reads_64 : decode cX11_reads 64 = .ok (.aload_n 0, 1) := by decide +kernel
theorem dX11_reads_65 : decode cX11_reads 65 = .ok (.sipush 954, 3) := by decide +kernel
theorem dX11_reads_68 : decode cX11_reads 68 = .ok (.aload_n 0, 1) := by decide +kernel
theorem dX11_reads_69 : decode cX11_reads 69 = .ok (.getfield 195, 3) := by decide +kernel
theorem dX11_reads_72 : decode cX11_reads 72 = .ok (.imul, 1) := by decide +kernel
theorem dX11_reads_73 : decode cX11_reads 73 = .ok (.iload_n 1, 1) := by decide +kernel
theorem dX11_reads_74 : decode cX11_reads 74 = .ok (.invokevirtual 258, 3) := by decide +kernel
theorem dX11_reads_77 : decode cX11_reads 77 = .ok (.iastore, 1) := by decide +kernel
theorem dX11_reads_78 : decode cX11_reads 78 = .ok (.iinc 1 1, 3) := by decide +kernel
theorem dX11_reads_81 : decode cX11_reads 81 = .ok (.goto (-38), 3) := by decide +kernel
theorem dX11_reads_84 : decode cX11_reads 84 = .ok (.aload_n 0, 1) := by decide +kernel
theorem dX11_reads_85 : decode cX11_reads 85 = .ok (.aload_n 0, 1) := by decide +kernel
theorem dX11_reads_86 : decode cX11_reads 86 = .ok (.getfield 195, 3) := by decide +kernel
theorem dX11_reads_89 : decode cX11_reads 89 = .ok (.putfield 269, 3) := by decide +kernel
theorem dX11_reads_92 : decode cX11_reads 92 = .ok (.iconst 0, 1) := by decide +kernel
theorem dX11_reads_93 : decode cX11_reads 93 = .ok (.istore_n 1, 1) := by decide +kernel
theorem dX11_reads_94 : decode cX11_reads 94 = .ok (.iload_n 1, 1) := by decide +kernel
theorem dX11_reads_95 : decode cX11_reads 95 = .ok (.sipush 345, 3) := by decide +kernel
theorem dX11_reads_98 : decode cX11_reads 98 = .ok (.if_icmp .ge 16, 3) := by decide +kernel
theorem dX11_reads_101 : decode cX11_reads 101 = .ok (.aload_n 0, 1) := by decide +kernel
theorem dX11_reads_102 : decode cX11_reads 102 = .ok (.getfield 65, 3) := by decide +kernel
theorem dX11_reads_105 : decode cX11_reads 105 = .ok (.iload_n 1, 1) := by decide +kernel
theorem dX11_reads_106 : decode cX11_reads 106 = .ok (.iconst 0, 1) := by decide +kernel
theorem dX11_reads_107 : decode cX11_reads 107 = .ok (.iastore, 1) := by decide +kernel
theorem dX11_reads_108 : decode cX11_reads 108 = .ok (.iinc 1 1, 3) := by decide +kernel
theorem dX11_reads_111 : decode cX11_reads 111 = .ok (.goto (-17), 3) := by decide +kernel
theorem dX11_reads_114 : decode cX11_reads 114 = .ok (.iconst 0, 1) := by decide +kernel
theorem dX11_reads_115 : decode cX11_reads 115 = .ok (.istore_n 1, 1) := by decide +kernel
theorem dX11_reads_116 : decode cX11_reads 116 = .ok (.iload_n 1, 1) := by decide +kernel
theorem dX11_reads_117 : decode cX11_reads 117 = .ok (.sipush 240, 3) := by decide +kernel
theorem dX11_reads_120 : decode cX11_reads 120 = .ok (.if_icmp .ge 23, 3) := by decide +kernel
theorem dX11_reads_123 : decode cX11_reads 123 = .ok (.aload_n 0, 1) := by decide +kernel
theorem dX11_reads_124 : decode cX11_reads 124 = .ok (.getfield 68, 3) := by decide +kernel
theorem dX11_reads_127 : decode cX11_reads 127 = .ok (.iload_n 1, 1) := by decide +kernel
theorem dX11_reads_128 : decode cX11_reads 128 = .ok (.iconst (-1), 1) := by decide +kernel
theorem dX11_reads_129 : decode cX11_reads 129 = .ok (.iastore, 1) := by decide +kernel
theorem dX11_reads_130 : decode cX11_reads 130 = .ok (.aload_n 0, 1) := by decide +kernel
theorem dX11_reads_131 : decode cX11_reads 131 = .ok (.getfield 71, 3) := by decide +kernel
theorem dX11_reads_134 : decode cX11_reads 134 = .ok (.iload_n 1, 1) := by decide +kernel
theorem dX11_reads_135 : decode cX11_reads 135 = .ok (.iconst 0, 1) := by decide +kernel
theorem dX11_reads_136 : decode cX11_reads 136 = .ok (.bastore, 1) := by decide +kernel
theorem dX11_reads_137 : decode cX11_reads 137 = .ok (.iinc 1 1, 3) := by decide +kernel
theorem dX11_reads_140 : decode cX11_reads 140 = .ok (.goto (-24), 3) := by decide +kernel
theorem dX11_reads_143 : decode cX11_reads 143 = .ok (.aload_n 0, 1) := by decide +kernel
theorem dX11_reads_144 : decode cX11_reads 144 = .ok (.iconst 0, 1) := by decide +kernel
theorem dX11_reads_145 : decode cX11_reads 145 = .ok (.putfield 281, 3) := by decide +kernel
theorem dX11_reads_148 : decode cX11_reads 148 = .ok (.aload_n 0, 1) := by decide +kernel
theorem dX11_reads_149 : decode cX11_reads 149 = .ok (.iconst (-1), 1) := by decide +kernel
theorem dX11_reads_150 : decode cX11_reads 150 = .ok (.putfield 105, 3) := by decide +kernel
theorem dX11_reads_153 : decode cX11_reads 153 = .ok (.iconst 0, 1) := by decide +kernel
theorem dX11_reads_154 : decode cX11_reads 154 = .ok (.ireturn, 1) := by decide +kernel
theorem dX11_load_0 : decode cX11_load 0 = .ok (.iload_n 1, 1) := by decide +kernel
theorem dX11_load_1 : decode cX11_load 1 = .ok (.ifCond .lt 11, 3) := by decide +kernel
theorem dX11_load_4 : decode cX11_load 4 = .ok (.iload_n 1, 1) := by decide +kernel
theorem dX11_load_5 : decode cX11_load 5 = .ok (.aload_n 0, 1) := by decide +kernel
theorem dX11_load_6 : decode cX11_load 6 = .ok (.getfield 117, 3) := by decide +kernel
theorem dX11_load_9 : decode cX11_load 9 = .ok (.if_icmp .le 6, 3) := by decide +kernel
theorem dX11_load_12 : decode cX11_load 12 = .ok (.bipush (-2), 2) := by decide +kernel
theorem dX11_load_14 : decode cX11_load 14 = .ok (.ireturn, 1) := by decide +kernel
theorem dX11_load_15 : decode cX11_load 15 = .ok (.iconst 0, 1) := by decide +kernel
theorem dX11_load_16 : decode cX11_load 16 = .ok (.istore_n 2, 1) := by decide +kernel
theorem dX11_load_17 : decode cX11_load 17 = .ok (.iload_n 2, 1) := by decide +kernel
theorem dX11_load_18 : decode cX11_load 18 = .ok (.iload_n 1, 1) := by decide +kernel
theorem dX11_load_19 : decode cX11_load 19 = .ok (.if_icmp .ge 21, 3) := by decide +kernel
theorem dX11_load_22 : decode cX11_load 22 = .ok (.aload_n 0, 1) := by decide +kernel
theorem dX11_load_23 : decode cX11_load 23 = .ok (.getfield 13, 3) := by decide +kernel
theorem dX11_load_26 : decode cX11_load 26 = .ok (.iload_n 2, 1) := by decide +kernel
theorem dX11_load_27 : decode cX11_load 27 = .ok (.aload_n 0, 1) := by decide +kernel
theorem dX11_load_28 : decode cX11_load 28 = .ok (.getfield 7, 3) := by decide +kernel
theorem dX11_load_31 : decode cX11_load 31 = .ok (.iload_n 2, 1) := by decide +kernel
theorem dX11_load_32 : decode cX11_load 32 = .ok (.baload, 1) := by decide +kernel
theorem dX11_load_33 : decode cX11_load 33 = .ok (.bastore, 1) := by decide +kernel
theorem dX11_load_34 : decode cX11_load 34 = .ok (.iinc 2 1, 3) := by decide +kernel
theorem dX11_load_37 : decode cX11_load 37 = .ok (.goto (-20), 3) := by decide +kernel
theorem dX11_load_40 : decode cX11_load 40 = .ok (.aload_n 0, 1) := by decide +kernel
theorem dX11_load_41 : decode cX11_load 41 = .ok (.iload_n 1, 1) := by decide +kernel
theorem dX11_load_42 : decode cX11_load 42 = .ok (.putfield 124, 3) := by decide +kernel
theorem dX11_load_45 : decode cX11_load 45 = .ok (.aload_n 0, 1) := by decide +kernel
theorem dX11_load_46 : decode cX11_load 46 = .ok (.iconst 0, 1) := by decide +kernel
theorem dX11_load_47 : decode cX11_load 47 = .ok (.putfield 117, 3) := by decide +kernel
theorem dX11_load_50 : decode cX11_load 50 = .ok (.aload_n 0, 1) := by decide +kernel
theorem dX11_load_51 : decode cX11_load 51 = .ok (.aload_n 0, 1) := by decide +kernel
theorem dX11_load_52 : decode cX11_load 52 = .ok (.invokevirtual 284, 3) := by decide +kernel
theorem dX11_load_55 : decode cX11_load 55 = .ok (.putfield 287, 3) := by decide +kernel
theorem dX11_load_58 : decode cX11_load 58 = .ok (.aload_n 0, 1) := by decide +kernel
theorem dX11_load_59 : decode cX11_load 59 = .ok (.aload_n 0, 1) := by decide +kernel
theorem dX11_load_60 : decode cX11_load 60 = .ok (.getfield 287, 3) := by decide +kernel
theorem dX11_load_63 : decode cX11_load 63 = .ok (.ifCond .ne 7, 3) := by decide +kernel
theorem dX11_load_66 : decode cX11_load 66 = .ok (.iconst (-1), 1) := by decide +kernel
theorem dX11_load_67 : decode cX11_load 67 = .ok (.goto 7, 3) := by decide +kernel
theorem dX11_load_70 : decode cX11_load 70 = .ok (.aload_n 0, 1) := by decide +kernel
theorem dX11_load_71 : decode cX11_load 71 = .ok (.getfield 159, 3) := by decide +kernel
theorem dX11_load_74 : decode cX11_load 74 = .ok (.putfield 30, 3) := by decide +kernel
theorem dX11_load_77 : decode cX11_load 77 = .ok (.aload_n 0, 1) := by decide +kernel
theorem dX11_load_78 : decode cX11_load 78 = .ok (.getfield 287, 3) := by decide +kernel
theorem dX11_load_81 : decode cX11_load 81 = .ok (.ifCond .ne 17, 3) := by decide +kernel
theorem dX11_load_84 : decode cX11_load 84 = .ok (.aload_n 0, 1) := by decide +kernel
theorem dX11_load_85 : decode cX11_load 85 = .ok (.getfield 34, 3) := by decide +kernel
theorem dX11_load_88 : decode cX11_load 88 = .ok (.iconst 5, 1) := by decide +kernel
theorem dX11_load_89 : decode cX11_load 89 = .ok (.aload_n 0, 1) := by decide +kernel
theorem dX11_load_90 : decode cX11_load 90 = .ok (.getfield 269, 3) := by decide +kernel
theorem dX11_load_93 : decode cX11_load 93 = .ok (.imul, 1) := by decide +kernel
theorem dX11_load_94 : decode cX11_load 94 = .ok (.iaload, 1) := by decide +kernel
theorem dX11_load_95 : decode cX11_load 95 = .ok (.goto 4, 3) := by decide +kernel
theorem dX11_load_98 : decode cX11_load 98 = .ok (.iconst (-1), 1) := by decide +kernel
theorem dX11_load_99 : decode cX11_load 99 = .ok (.ireturn, 1) := by decide +kernel
theorem dX11_put_0 : decode cX11_put 0 = .ok (.aload_n 0, 1) := by decide +kernel
theorem dX11_put_1 : decode cX11_put 1 = .ok (.getfield 13, 3) := by decide +kernel
theorem dX11_put_4 : decode cX11_put 4 = .ok (.aload_n 0, 1) := by decide +kernel
theorem dX11_put_5 : decode cX11_put 5 = .ok (.getfield 124, 3) := by decide +kernel
theorem dX11_put_8 : decode cX11_put 8 = .ok (.iload_n 1, 1) := by decide +kernel
theorem dX11_put_9 : decode cX11_put 9 = .ok (.i2b, 1) := by decide +kernel
theorem dX11_put_10 : decode cX11_put 10 = .ok (.bastore, 1) := by decide +kernel
theorem dX11_put_11 : decode cX11_put 11 = .ok (.aload_n 0, 1) := by decide +kernel
theorem dX11_put_12 : decode cX11_put 12 = .ok (.dup, 1) := by decide +kernel
theorem dX11_put_13 : decode cX11_put 13 = .ok (.getfield 124, 3) := by decide +kernel
theorem dX11_put_16 : decode cX11_put 16 = .ok (.iconst 1, 1) := by decide +kernel
theorem dX11_put_17 : decode cX11_put 17 = .ok (.iadd, 1) := by decide +kernel
theorem dX11_put_18 : decode cX11_put 18 = .ok (.putfield 124, 3) := by decide +kernel
theorem dX11_put_21 : decode cX11_put 21 = .ok (.return_, 1) := by decide +kernel
theorem dX11_word_0 : decode cX11_word 0 = .ok (.bipush 48, 2) := by decide +kernel
theorem dX11_word_2 : decode cX11_word 2 = .ok (.istore_n 3, 1) := by decide +kernel
theorem dX11_word_3 : decode cX11_word 3 = .ok (.iload_n 3, 1) := by decide +kernel
theorem dX11_word_4 : decode cX11_word 4 = .ok (.ifCond .lt 33, 3) := by decide +kernel
theorem dX11_word_7 : decode cX11_word 7 = .ok (.lload_n 1, 1) := by decide +kernel
theorem dX11_word_8 : decode cX11_word 8 = .ok (.iload_n 3, 1) := by decide +kernel
theorem dX11_word_9 : decode cX11_word 9 = .ok (.lshr, 1) := by decide +kernel
theorem dX11_word_10 : decode cX11_word 10 = .ok (.ldc2_w 290, 3) := by decide +kernel
theorem dX11_word_13 : decode cX11_word 13 = .ok (.land, 1) := by decide +kernel
theorem dX11_word_14 : decode cX11_word 14 = .ok (.lconst 0, 1) := by decide +kernel
theorem dX11_word_15 : decode cX11_word 15 = .ok (.lcmp, 1) := by decide +kernel
theorem dX11_word_16 : decode cX11_word 16 = .ok (.ifCond .eq 15, 3) := by decide +kernel
theorem dX11_word_19 : decode cX11_word 19 = .ok (.aload_n 0, 1) := by decide +kernel
theorem dX11_word_20 : decode cX11_word 20 = .ok (.lload_n 1, 1) := by decide +kernel
theorem dX11_word_21 : decode cX11_word 21 = .ok (.iload_n 3, 1) := by decide +kernel
theorem dX11_word_22 : decode cX11_word 22 = .ok (.lshr, 1) := by decide +kernel
theorem dX11_word_23 : decode cX11_word 23 = .ok (.ldc2_w 290, 3) := by decide +kernel
theorem dX11_word_26 : decode cX11_word 26 = .ok (.land, 1) := by decide +kernel
theorem dX11_word_27 : decode cX11_word 27 = .ok (.l2i, 1) := by decide +kernel
theorem dX11_word_28 : decode cX11_word 28 = .ok (.invokevirtual 292, 3) := by decide +kernel
theorem dX11_word_31 : decode cX11_word 31 = .ok (.iinc 3 (-8), 3) := by decide +kernel
theorem dX11_word_34 : decode cX11_word 34 = .ok (.goto (-31), 3) := by decide +kernel
theorem dX11_word_37 : decode cX11_word 37 = .ok (.return_, 1) := by decide +kernel
theorem dX11_adder_0 : decode cX11_adder 0 = .ok (.iload_n 1, 1) := by decide +kernel
theorem dX11_adder_1 : decode cX11_adder 1 = .ok (.iconst 1, 1) := by decide +kernel
theorem dX11_adder_2 : decode cX11_adder 2 = .ok (.if_icmp .lt 9, 3) := by decide +kernel
theorem dX11_adder_5 : decode cX11_adder 5 = .ok (.iload_n 1, 1) := by decide +kernel
theorem dX11_adder_6 : decode cX11_adder 6 = .ok (.bipush 7, 2) := by decide +kernel
theorem dX11_adder_8 : decode cX11_adder 8 = .ok (.if_icmp .le 5, 3) := by decide +kernel
theorem dX11_adder_11 : decode cX11_adder 11 = .ok (.iconst (-1), 1) := by decide +kernel
theorem dX11_adder_12 : decode cX11_adder 12 = .ok (.ireturn, 1) := by decide +kernel
theorem dX11_adder_13 : decode cX11_adder 13 = .ok (.aload_n 0, 1) := by decide +kernel
theorem dX11_adder_14 : decode cX11_adder 14 = .ok (.iconst 0, 1) := by decide +kernel
theorem dX11_adder_15 : decode cX11_adder 15 = .ok (.putfield 124, 3) := by decide +kernel
theorem dX11_adder_18 : decode cX11_adder 18 = .ok (.iconst 0, 1) := by decide +kernel
theorem dX11_adder_19 : decode cX11_adder 19 = .ok (.istore_n 2, 1) := by decide +kernel
theorem dX11_adder_20 : decode cX11_adder 20 = .ok (.iload_n 2, 1) := by decide +kernel
theorem dX11_adder_21 : decode cX11_adder 21 = .ok (.iload_n 1, 1) := by decide +kernel
theorem dX11_adder_22 : decode cX11_adder 22 = .ok (.if_icmp .ge 14, 3) := by decide +kernel
theorem dX11_adder_25 : decode cX11_adder 25 = .ok (.aload_n 0, 1) := by decide +kernel
theorem dX11_adder_26 : decode cX11_adder 26 = .ok (.iload_n 2, 1) := by decide +kernel
theorem dX11_adder_27 : decode cX11_adder 27 = .ok (.invokevirtual 295, 3) := by decide +kernel
theorem dX11_adder_30 : decode cX11_adder 30 = .ok (.iinc 2 1, 3) := by decide +kernel
theorem dX11_adder_33 : decode cX11_adder 33 = .ok (.goto (-13), 3) := by decide +kernel
theorem dX11_adder_36 : decode cX11_adder 36 = .ok (.aload_n 0, 1) := by decide +kernel
theorem dX11_adder_37 : decode cX11_adder 37 = .ok (.iload_n 1, 1) := by decide +kernel
theorem dX11_adder_38 : decode cX11_adder 38 = .ok (.invokevirtual 298, 3) := by decide +kernel
theorem dX11_adder_41 : decode cX11_adder 41 = .ok (.aload_n 0, 1) := by decide +kernel
theorem dX11_adder_42 : decode cX11_adder 42 = .ok (.invokevirtual 284, 3) := by decide +kernel
theorem dX11_adder_45 : decode cX11_adder 45 = .ok (.istore_n 2, 1) := by decide +kernel
theorem dX11_adder_46 : decode cX11_adder 46 = .ok (.aload_n 0, 1) := by decide +kernel
theorem dX11_adder_47 : decode cX11_adder 47 = .ok (.getfield 34, 3) := by decide +kernel
theorem dX11_adder_50 : decode cX11_adder 50 = .ok (.iconst 5, 1) := by decide +kernel
theorem dX11_adder_51 : decode cX11_adder 51 = .ok (.aload_n 0, 1) := by decide +kernel
theorem dX11_adder_52 : decode cX11_adder 52 = .ok (.getfield 269, 3) := by decide +kernel
theorem dX11_adder_55 : decode cX11_adder 55 = .ok (.imul, 1) := by decide +kernel
theorem dX11_adder_56 : decode cX11_adder 56 = .ok (.iaload, 1) := by decide +kernel
theorem dX11_adder_57 : decode cX11_adder 57 = .ok (.ireturn, 1) := by decide +kernel
theorem dX11_bit_0 : decode cX11_bit 0 = .ok (.aload_n 0, 1) := by decide +kernel
theorem dX11_bit_1 : decode cX11_bit 1 = .ok (.ldc2_w 301, 3) := by decide +kernel
theorem dX11_bit_4 : decode cX11_bit 4 = .ok (.invokevirtual 303, 3) := by decide +kernel
theorem dX11_bit_7 : decode cX11_bit 7 = .ok (.aload_n 0, 1) := by decide +kernel
theorem dX11_bit_8 : decode cX11_bit 8 = .ok (.bipush 48, 2) := by decide +kernel
theorem dX11_bit_10 : decode cX11_bit 10 = .ok (.iload_n 1, 1) := by decide +kernel
theorem dX11_bit_11 : decode cX11_bit 11 = .ok (.iadd, 1) := by decide +kernel
theorem dX11_bit_12 : decode cX11_bit 12 = .ok (.invokevirtual 292, 3) := by decide +kernel
theorem dX11_bit_15 : decode cX11_bit 15 = .ok (.aload_n 0, 1) := by decide +kernel
theorem dX11_bit_16 : decode cX11_bit 16 = .ok (.ldc2_w 307, 3) := by decide +kernel
theorem dX11_bit_19 : decode cX11_bit 19 = .ok (.invokevirtual 303, 3) := by decide +kernel
theorem dX11_bit_22 : decode cX11_bit 22 = .ok (.aload_n 0, 1) := by decide +kernel
theorem dX11_bit_23 : decode cX11_bit 23 = .ok (.bipush 48, 2) := by decide +kernel
theorem dX11_bit_25 : decode cX11_bit 25 = .ok (.iload_n 1, 1) := by decide +kernel
theorem dX11_bit_26 : decode cX11_bit 26 = .ok (.iadd, 1) := by decide +kernel
theorem dX11_bit_27 : decode cX11_bit 27 = .ok (.invokevirtual 292, 3) := by decide +kernel
theorem dX11_bit_30 : decode cX11_bit 30 = .ok (.aload_n 0, 1) := by decide +kernel
theorem dX11_bit_31 : decode cX11_bit 31 = .ok (.ldc2_w 309, 3) := by decide +kernel
theorem dX11_bit_34 : decode cX11_bit 34 = .ok (.invokevirtual 303, 3) := by decide +kernel
theorem dX11_bit_37 : decode cX11_bit 37 = .ok (.aload_n 0, 1) := by decide +kernel
theorem dX11_bit_38 : decode cX11_bit 38 = .ok (.ldc2_w 311, 3) := by decide +kernel
theorem dX11_bit_41 : decode cX11_bit 41 = .ok (.invokevirtual 303, 3) := by decide +kernel
theorem dX11_bit_44 : decode cX11_bit 44 = .ok (.aload_n 0, 1) := by decide +kernel
theorem dX11_bit_45 : decode cX11_bit 45 = .ok (.bipush 48, 2) := by decide +kernel
theorem dX11_bit_47 : decode cX11_bit 47 = .ok (.iload_n 1, 1) := by decide +kernel
theorem dX11_bit_48 : decode cX11_bit 48 = .ok (.iadd, 1) := by decide +kernel
theorem dX11_bit_49 : decode cX11_bit 49 = .ok (.invokevirtual 292, 3) := by decide +kernel
theorem dX11_bit_52 : decode cX11_bit 52 = .ok (.aload_n 0, 1) := by decide +kernel
theorem dX11_bit_53 : decode cX11_bit 53 = .ok (.ldc2_w 313, 3) := by decide +kernel
theorem dX11_bit_56 : decode cX11_bit 56 = .ok (.invokevirtual 303, 3) := by decide +kernel
theorem dX11_bit_59 : decode cX11_bit 59 = .ok (.aload_n 0, 1) := by decide +kernel
theorem dX11_bit_60 : decode cX11_bit 60 = .ok (.ldc2_w 315, 3) := by decide +kernel
theorem dX11_bit_63 : decode cX11_bit 63 = .ok (.invokevirtual 303, 3) := by decide +kernel
theorem dX11_bit_66 : decode cX11_bit 66 = .ok (.aload_n 0, 1) := by decide +kernel
theorem dX11_bit_67 : decode cX11_bit 67 = .ok (.ldc2_w 317, 3) := by decide +kernel
theorem dX11_bit_70 : decode cX11_bit 70 = .ok (.invokevirtual 303, 3) := by decide +kernel
theorem dX11_bit_73 : decode cX11_bit 73 = .ok (.aload_n 0, 1) := by decide +kernel
theorem dX11_bit_74 : decode cX11_bit 74 = .ok (.ldc2_w 319, 3) := by decide +kernel
theorem dX11_bit_77 : decode cX11_bit 77 = .ok (.invokevirtual 303, 3) := by decide +kernel
theorem dX11_bit_80 : decode cX11_bit 80 = .ok (.aload_n 0, 1) := by decide +kernel
theorem dX11_bit_81 : decode cX11_bit 81 = .ok (.ldc2_w 321, 3) := by decide +kernel
theorem dX11_bit_84 : decode cX11_bit 84 = .ok (.invokevirtual 303, 3) := by decide +kernel
theorem dX11_bit_87 : decode cX11_bit 87 = .ok (.aload_n 0, 1) := by decide +kernel
theorem dX11_bit_88 : decode cX11_bit 88 = .ok (.ldc2_w 323, 3) := by decide +kernel
theorem dX11_bit_91 : decode cX11_bit 91 = .ok (.invokevirtual 303, 3) := by decide +kernel
theorem dX11_bit_94 : decode cX11_bit 94 = .ok (.aload_n 0, 1) := by decide +kernel
theorem dX11_bit_95 : decode cX11_bit 95 = .ok (.bipush 48, 2) := by decide +kernel
theorem dX11_bit_97 : decode cX11_bit 97 = .ok (.iload_n 1, 1) := by decide +kernel
theorem dX11_bit_98 : decode cX11_bit 98 = .ok (.iadd, 1) := by decide +kernel
theorem dX11_bit_99 : decode cX11_bit 99 = .ok (.invokevirtual 292, 3) := by decide +kernel
theorem dX11_bit_102 : decode cX11_bit 102 = .ok (.aload_n 0, 1) := by decide +kernel
theorem dX11_bit_103 : decode cX11_bit 103 = .ok (.ldc2_w 313, 3) := by decide +kernel
theorem dX11_bit_106 : decode cX11_bit 106 = .ok (.invokevirtual 303, 3) := by decide +kernel
theorem dX11_bit_109 : decode cX11_bit 109 = .ok (.aload_n 0, 1) := by decide +kernel
theorem dX11_bit_110 : decode cX11_bit 110 = .ok (.ldc2_w 315, 3) := by decide +kernel
theorem dX11_bit_113 : decode cX11_bit 113 = .ok (.invokevirtual 303, 3) := by decide +kernel
theorem dX11_bit_116 : decode cX11_bit 116 = .ok (.aload_n 0, 1) := by decide +kernel
theorem dX11_bit_117 : decode cX11_bit 117 = .ok (.ldc2_w 317, 3) := by decide +kernel
theorem dX11_bit_120 : decode cX11_bit 120 = .ok (.invokevirtual 303, 3) := by decide +kernel
theorem dX11_bit_123 : decode cX11_bit 123 = .ok (.aload_n 0, 1) := by decide +kernel
theorem dX11_bit_124 : decode cX11_bit 124 = .ok (.ldc2_w 319, 3) := by decide +kernel
theorem dX11_bit_127 : decode cX11_bit 127 = .ok (.invokevirtual 303, 3) := by decide +kernel
theorem dX11_bit_130 : decode cX11_bit 130 = .ok (.aload_n 0, 1) := by decide +kernel
theorem dX11_bit_131 : decode cX11_bit 131 = .ok (.ldc2_w 321, 3) := by decide +kernel
theorem dX11_bit_134 : decode cX11_bit 134 = .ok (.invokevirtual 303, 3) := by decide +kernel
theorem dX11_bit_137 : decode cX11_bit 137 = .ok (.aload_n 0, 1) := by decide +kernel
theorem dX11_bit_138 : decode cX11_bit 138 = .ok (.ldc2_w 325, 3) := by decide +kernel
theorem dX11_bit_141 : decode cX11_bit 141 = .ok (.invokevirtual 303, 3) := by decide +kernel
theorem dX11_bit_144 : decode cX11_bit 144 = .ok (.aload_n 0, 1) := by decide +kernel
theorem dX11_bit_145 : decode cX11_bit 145 = .ok (.bipush 48, 2) := by decide +kernel
theorem dX11_bit_147 : decode cX11_bit 147 = .ok (.iload_n 1, 1) := by decide +kernel
theorem dX11_bit_148 : decode cX11_bit 148 = .ok (.iadd, 1) := by decide +kernel
theorem dX11_bit_149 : decode cX11_bit 149 = .ok (.invokevirtual 292, 3) := by decide +kernel
theorem dX11_bit_152 : decode cX11_bit 152 = .ok (.aload_n 0, 1) := by decide +kernel
theorem dX11_bit_153 : decode cX11_bit 153 = .ok (.ldc2_w 327, 3) := by decide +kernel
theorem dX11_bit_156 : decode cX11_bit 156 = .ok (.invokevirtual 303, 3) := by decide +kernel
theorem dX11_bit_159 : decode cX11_bit 159 = .ok (.aload_n 0, 1) := by decide +kernel
theorem dX11_bit_160 : decode cX11_bit 160 = .ok (.ldc2_w 329, 3) := by decide +kernel
theorem dX11_bit_163 : decode cX11_bit 163 = .ok (.invokevirtual 303, 3) := by decide +kernel
theorem dX11_bit_166 : decode cX11_bit 166 = .ok (.aload_n 0, 1) := by decide +kernel
theorem dX11_bit_167 : decode cX11_bit 167 = .ok (.bipush 48, 2) := by decide +kernel
theorem dX11_bit_169 : decode cX11_bit 169 = .ok (.iload_n 1, 1) := by decide +kernel
theorem dX11_bit_170 : decode cX11_bit 170 = .ok (.iadd, 1) := by decide +kernel
theorem dX11_bit_171 : decode cX11_bit 171 = .ok (.invokevirtual 292, 3) := by decide +kernel
theorem dX11_bit_174 : decode cX11_bit 174 = .ok (.aload_n 0, 1) := by decide +kernel
theorem dX11_bit_175 : decode cX11_bit 175 = .ok (.ldc2_w 331, 3) := by decide +kernel
theorem dX11_bit_178 : decode cX11_bit 178 = .ok (.invokevirtual 303, 3) := by decide +kernel
theorem dX11_bit_181 : decode cX11_bit 181 = .ok (.aload_n 0, 1) := by decide +kernel
theorem dX11_bit_182 : decode cX11_bit 182 = .ok (.bipush 48, 2) := by decide +kernel
theorem dX11_bit_184 : decode cX11_bit 184 = .ok (.iload_n 1, 1) := by decide +kernel
theorem dX11_bit_185 : decode cX11_bit 185 = .ok (.iadd, 1) := by decide +kernel
theorem dX11_bit_186 : decode cX11_bit 186 = .ok (.invokevirtual 292, 3) := by decide +kernel
theorem dX11_bit_189 : decode cX11_bit 189 = .ok (.aload_n 0, 1) := by decide +kernel
theorem dX11_bit_190 : decode cX11_bit 190 = .ok (.ldc2_w 333, 3) := by decide +kernel
theorem dX11_bit_193 : decode cX11_bit 193 = .ok (.invokevirtual 303, 3) := by decide +kernel
theorem dX11_bit_196 : decode cX11_bit 196 = .ok (.aload_n 0, 1) := by decide +kernel
theorem dX11_bit_197 : decode cX11_bit 197 = .ok (.bipush 48, 2) := by decide +kernel
theorem dX11_bit_199 : decode cX11_bit 199 = .ok (.iload_n 1, 1) := by decide +kernel
theorem dX11_bit_200 : decode cX11_bit 200 = .ok (.iadd, 1) := by decide +kernel
theorem dX11_bit_201 : decode cX11_bit 201 = .ok (.invokevirtual 292, 3) := by decide +kernel
theorem dX11_bit_204 : decode cX11_bit 204 = .ok (.aload_n 0, 1) := by decide +kernel
theorem dX11_bit_205 : decode cX11_bit 205 = .ok (.ldc2_w 335, 3) := by decide +kernel
theorem dX11_bit_208 : decode cX11_bit 208 = .ok (.invokevirtual 303, 3) := by decide +kernel
theorem dX11_bit_211 : decode cX11_bit 211 = .ok (.aload_n 0, 1) := by decide +kernel
theorem dX11_bit_212 : decode cX11_bit 212 = .ok (.ldc2_w 337, 3) := by decide +kernel
theorem dX11_bit_215 : decode cX11_bit 215 = .ok (.invokevirtual 303, 3) := by decide +kernel
theorem dX11_bit_218 : decode cX11_bit 218 = .ok (.aload_n 0, 1) := by decide +kernel
theorem dX11_bit_219 : decode cX11_bit 219 = .ok (.bipush 48, 2) := by decide +kernel
theorem dX11_bit_221 : decode cX11_bit 221 = .ok (.iload_n 1, 1) := by decide +kernel
theorem dX11_bit_222 : decode cX11_bit 222 = .ok (.iadd, 1) := by decide +kernel
theorem dX11_bit_223 : decode cX11_bit 223 = .ok (.invokevirtual 292, 3) := by decide +kernel
theorem dX11_bit_226 : decode cX11_bit 226 = .ok (.aload_n 0, 1) := by decide +kernel
theorem dX11_bit_227 : decode cX11_bit 227 = .ok (.ldc2_w 339, 3) := by decide +kernel
theorem dX11_bit_230 : decode cX11_bit 230 = .ok (.invokevirtual 303, 3) := by decide +kernel
theorem dX11_bit_233 : decode cX11_bit 233 = .ok (.aload_n 0, 1) := by decide +kernel
theorem dX11_bit_234 : decode cX11_bit 234 = .ok (.bipush 48, 2) := by decide +kernel
theorem dX11_bit_236 : decode cX11_bit 236 = .ok (.iload_n 1, 1) := by decide +kernel
theorem dX11_bit_237 : decode cX11_bit 237 = .ok (.iadd, 1) := by decide +kernel
theorem dX11_bit_238 : decode cX11_bit 238 = .ok (.invokevirtual 292, 3) := by decide +kernel
theorem dX11_bit_241 : decode cX11_bit 241 = .ok (.aload_n 0, 1) := by decide +kernel
theorem dX11_bit_242 : decode cX11_bit 242 = .ok (.ldc2_w 341, 3) := by decide +kernel
theorem dX11_bit_245 : decode cX11_bit 245 = .ok (.invokevirtual 303, 3) := by decide +kernel
theorem dX11_bit_248 : decode cX11_bit 248 = .ok (.aload_n 0, 1) := by decide +kernel
theorem dX11_bit_249 : decode cX11_bit 249 = .ok (.ldc2_w 343, 3) := by decide +kernel
theorem dX11_bit_252 : decode cX11_bit 252 = .ok (.invokevirtual 303, 3) := by decide +kernel
theorem dX11_bit_255 : decode cX11_bit 255 = .ok (.aload_n 0, 1) := by decide +kernel
theorem dX11_bit_256 : decode cX11_bit 256 = .ok (.bipush 48, 2) := by decide +kernel
theorem dX11_bit_258 : decode cX11_bit 258 = .ok (.iload_n 1, 1) := by decide +kernel
theorem dX11_bit_259 : decode cX11_bit 259 = .ok (.iadd, 1) := by decide +kernel
theorem dX11_bit_260 : decode cX11_bit 260 = .ok (.invokevirtual 292, 3) := by decide +kernel
theorem dX11_bit_263 : decode cX11_bit 263 = .ok (.aload_n 0, 1) := by decide +kernel
theorem dX11_bit_264 : decode cX11_bit 264 = .ok (.ldc2_w 345, 3) := by decide +kernel
theorem dX11_bit_267 : decode cX11_bit 267 = .ok (.invokevirtual 303, 3) := by decide +kernel
theorem dX11_bit_270 : decode cX11_bit 270 = .ok (.aload_n 0, 1) := by decide +kernel
theorem dX11_bit_271 : decode cX11_bit 271 = .ok (.bipush 48, 2) := by decide +kernel
theorem dX11_bit_273 : decode cX11_bit 273 = .ok (.iload_n 1, 1) := by decide +kernel
theorem dX11_bit_274 : decode cX11_bit 274 = .ok (.iadd, 1) := by decide +kernel
theorem dX11_bit_275 : decode cX11_bit 275 = .ok (.invokevirtual 292, 3) := by decide +kernel
theorem dX11_bit_278 : decode cX11_bit 278 = .ok (.aload_n 0, 1) := by decide +kernel
theorem dX11_bit_279 : decode cX11_bit 279 = .ok (.ldc2_w 341, 3) := by decide +kernel
theorem dX11_bit_282 : decode cX11_bit 282 = .ok (.invokevirtual 303, 3) := by decide +kernel
theorem dX11_bit_285 : decode cX11_bit 285 = .ok (.aload_n 0, 1) := by decide +kernel
theorem dX11_bit_286 : decode cX11_bit 286 = .ok (.ldc2_w 347, 3) := by decide +kernel
theorem dX11_bit_289 : decode cX11_bit 289 = .ok (.invokevirtual 303, 3) := by decide +kernel
theorem dX11_bit_292 : decode cX11_bit 292 = .ok (.aload_n 0, 1) := by decide +kernel
theorem dX11_bit_293 : decode cX11_bit 293 = .ok (.ldc2_w 311, 3) := by decide +kernel
theorem dX11_bit_296 : decode cX11_bit 296 = .ok (.invokevirtual 303, 3) := by decide +kernel
theorem dX11_bit_299 : decode cX11_bit 299 = .ok (.aload_n 0, 1) := by decide +kernel
theorem dX11_bit_300 : decode cX11_bit 300 = .ok (.bipush 48, 2) := by decide +kernel
theorem dX11_bit_302 : decode cX11_bit 302 = .ok (.iload_n 1, 1) := by decide +kernel
theorem dX11_bit_303 : decode cX11_bit 303 = .ok (.iadd, 1) := by decide +kernel
theorem dX11_bit_304 : decode cX11_bit 304 = .ok (.invokevirtual 292, 3) := by decide +kernel
theorem dX11_bit_307 : decode cX11_bit 307 = .ok (.aload_n 0, 1) := by decide +kernel
theorem dX11_bit_308 : decode cX11_bit 308 = .ok (.ldc2_w 349, 3) := by decide +kernel
theorem dX11_bit_311 : decode cX11_bit 311 = .ok (.invokevirtual 303, 3) := by decide +kernel
theorem dX11_bit_314 : decode cX11_bit 314 = .ok (.aload_n 0, 1) := by decide +kernel
theorem dX11_bit_315 : decode cX11_bit 315 = .ok (.bipush 48, 2) := by decide +kernel
theorem dX11_bit_317 : decode cX11_bit 317 = .ok (.iload_n 1, 1) := by decide +kernel
theorem dX11_bit_318 : decode cX11_bit 318 = .ok (.iadd, 1) := by decide +kernel
theorem dX11_bit_319 : decode cX11_bit 319 = .ok (.invokevirtual 292, 3) := by decide +kernel
theorem dX11_bit_322 : decode cX11_bit 322 = .ok (.aload_n 0, 1) := by decide +kernel
theorem dX11_bit_323 : decode cX11_bit 323 = .ok (.ldc2_w 351, 3) := by decide +kernel
theorem dX11_bit_326 : decode cX11_bit 326 = .ok (.invokevirtual 303, 3) := by decide +kernel
theorem dX11_bit_329 : decode cX11_bit 329 = .ok (.aload_n 0, 1) := by decide +kernel
theorem dX11_bit_330 : decode cX11_bit 330 = .ok (.bipush 48, 2) := by decide +kernel
theorem dX11_bit_332 : decode cX11_bit 332 = .ok (.iload_n 1, 1) := by decide +kernel
theorem dX11_bit_333 : decode cX11_bit 333 = .ok (.iadd, 1) := by decide +kernel
theorem dX11_bit_334 : decode cX11_bit 334 = .ok (.invokevirtual 292, 3) := by decide +kernel
theorem dX11_bit_337 : decode cX11_bit 337 = .ok (.aload_n 0, 1) := by decide +kernel
theorem dX11_bit_338 : decode cX11_bit 338 = .ok (.ldc2_w 353, 3) := by decide +kernel
theorem dX11_bit_341 : decode cX11_bit 341 = .ok (.invokevirtual 303, 3) := by decide +kernel
theorem dX11_bit_344 : decode cX11_bit 344 = .ok (.aload_n 0, 1) := by decide +kernel
theorem dX11_bit_345 : decode cX11_bit 345 = .ok (.ldc2_w 355, 3) := by decide +kernel
theorem dX11_bit_348 : decode cX11_bit 348 = .ok (.invokevirtual 303, 3) := by decide +kernel
theorem dX11_bit_351 : decode cX11_bit 351 = .ok (.aload_n 0, 1) := by decide +kernel
theorem dX11_bit_352 : decode cX11_bit 352 = .ok (.bipush 48, 2) := by decide +kernel
theorem dX11_bit_354 : decode cX11_bit 354 = .ok (.iload_n 1, 1) := by decide +kernel
theorem dX11_bit_355 : decode cX11_bit 355 = .ok (.iadd, 1) := by decide +kernel
theorem dX11_bit_356 : decode cX11_bit 356 = .ok (.invokevirtual 292, 3) := by decide +kernel
theorem dX11_bit_359 : decode cX11_bit 359 = .ok (.aload_n 0, 1) := by decide +kernel
theorem dX11_bit_360 : decode cX11_bit 360 = .ok (.ldc2_w 357, 3) := by decide +kernel
theorem dX11_bit_363 : decode cX11_bit 363 = .ok (.invokevirtual 303, 3) := by decide +kernel
theorem dX11_bit_366 : decode cX11_bit 366 = .ok (.aload_n 0, 1) := by decide +kernel
theorem dX11_bit_367 : decode cX11_bit 367 = .ok (.bipush 48, 2) := by decide +kernel
theorem dX11_bit_369 : decode cX11_bit 369 = .ok (.iload_n 1, 1) := by decide +kernel
theorem dX11_bit_370 : decode cX11_bit 370 = .ok (.iadd, 1) := by decide +kernel
theorem dX11_bit_371 : decode cX11_bit 371 = .ok (.invokevirtual 292, 3) := by decide +kernel
theorem dX11_bit_374 : decode cX11_bit 374 = .ok (.aload_n 0, 1) := by decide +kernel
theorem dX11_bit_375 : decode cX11_bit 375 = .ok (.ldc2_w 335, 3) := by decide +kernel
theorem dX11_bit_378 : decode cX11_bit 378 = .ok (.invokevirtual 303, 3) := by decide +kernel
theorem dX11_bit_381 : decode cX11_bit 381 = .ok (.aload_n 0, 1) := by decide +kernel
theorem dX11_bit_382 : decode cX11_bit 382 = .ok (.ldc2_w 355, 3) := by decide +kernel
theorem dX11_bit_385 : decode cX11_bit 385 = .ok (.invokevirtual 303, 3) := by decide +kernel
theorem dX11_bit_388 : decode cX11_bit 388 = .ok (.aload_n 0, 1) := by decide +kernel
theorem dX11_bit_389 : decode cX11_bit 389 = .ok (.bipush 48, 2) := by decide +kernel
theorem dX11_bit_391 : decode cX11_bit 391 = .ok (.iload_n 1, 1) := by decide +kernel
theorem dX11_bit_392 : decode cX11_bit 392 = .ok (.iadd, 1) := by decide +kernel
theorem dX11_bit_393 : decode cX11_bit 393 = .ok (.invokevirtual 292, 3) := by decide +kernel
theorem dX11_bit_396 : decode cX11_bit 396 = .ok (.aload_n 0, 1) := by decide +kernel
theorem dX11_bit_397 : decode cX11_bit 397 = .ok (.ldc2_w 359, 3) := by decide +kernel
theorem dX11_bit_400 : decode cX11_bit 400 = .ok (.invokevirtual 303, 3) := by decide +kernel
theorem dX11_bit_403 : decode cX11_bit 403 = .ok (.aload_n 0, 1) := by decide +kernel
theorem dX11_bit_404 : decode cX11_bit 404 = .ok (.bipush 48, 2) := by decide +kernel
theorem dX11_bit_406 : decode cX11_bit 406 = .ok (.iload_n 1, 1) := by decide +kernel
theorem dX11_bit_407 : decode cX11_bit 407 = .ok (.iadd, 1) := by decide +kernel
theorem dX11_bit_408 : decode cX11_bit 408 = .ok (.invokevirtual 292, 3) := by decide +kernel
theorem dX11_bit_411 : decode cX11_bit 411 = .ok (.aload_n 0, 1) := by decide +kernel
theorem dX11_bit_412 : decode cX11_bit 412 = .ok (.ldc2_w 353, 3) := by decide +kernel
theorem dX11_bit_415 : decode cX11_bit 415 = .ok (.invokevirtual 303, 3) := by decide +kernel
theorem dX11_bit_418 : decode cX11_bit 418 = .ok (.aload_n 0, 1) := by decide +kernel
theorem dX11_bit_419 : decode cX11_bit 419 = .ok (.ldc2_w 361, 3) := by decide +kernel
theorem dX11_bit_422 : decode cX11_bit 422 = .ok (.invokevirtual 303, 3) := by decide +kernel
theorem dX11_bit_425 : decode cX11_bit 425 = .ok (.aload_n 0, 1) := by decide +kernel
theorem dX11_bit_426 : decode cX11_bit 426 = .ok (.bipush 48, 2) := by decide +kernel
theorem dX11_bit_428 : decode cX11_bit 428 = .ok (.iload_n 1, 1) := by decide +kernel
theorem dX11_bit_429 : decode cX11_bit 429 = .ok (.iadd, 1) := by decide +kernel
theorem dX11_bit_430 : decode cX11_bit 430 = .ok (.invokevirtual 292, 3) := by decide +kernel
theorem dX11_bit_433 : decode cX11_bit 433 = .ok (.aload_n 0, 1) := by decide +kernel
theorem dX11_bit_434 : decode cX11_bit 434 = .ok (.ldc2_w 357, 3) := by decide +kernel
theorem dX11_bit_437 : decode cX11_bit 437 = .ok (.invokevirtual 303, 3) := by decide +kernel
theorem dX11_bit_440 : decode cX11_bit 440 = .ok (.aload_n 0, 1) := by decide +kernel
theorem dX11_bit_441 : decode cX11_bit 441 = .ok (.bipush 48, 2) := by decide +kernel
theorem dX11_bit_443 : decode cX11_bit 443 = .ok (.iload_n 1, 1) := by decide +kernel
theorem dX11_bit_444 : decode cX11_bit 444 = .ok (.iadd, 1) := by decide +kernel
theorem dX11_bit_445 : decode cX11_bit 445 = .ok (.invokevirtual 292, 3) := by decide +kernel
theorem dX11_bit_448 : decode cX11_bit 448 = .ok (.aload_n 0, 1) := by decide +kernel
theorem dX11_bit_449 : decode cX11_bit 449 = .ok (.ldc2_w 363, 3) := by decide +kernel
theorem dX11_bit_452 : decode cX11_bit 452 = .ok (.invokevirtual 303, 3) := by decide +kernel
theorem dX11_bit_455 : decode cX11_bit 455 = .ok (.aload_n 0, 1) := by decide +kernel
theorem dX11_bit_456 : decode cX11_bit 456 = .ok (.bipush 49, 2) := by decide +kernel
theorem dX11_bit_458 : decode cX11_bit 458 = .ok (.iload_n 1, 1) := by decide +kernel
theorem dX11_bit_459 : decode cX11_bit 459 = .ok (.iadd, 1) := by decide +kernel
theorem dX11_bit_460 : decode cX11_bit 460 = .ok (.invokevirtual 292, 3) := by decide +kernel
theorem dX11_bit_463 : decode cX11_bit 463 = .ok (.aload_n 0, 1) := by decide +kernel
theorem dX11_bit_464 : decode cX11_bit 464 = .ok (.ldc2_w 335, 3) := by decide +kernel
theorem dX11_bit_467 : decode cX11_bit 467 = .ok (.invokevirtual 303, 3) := by decide +kernel
theorem dX11_bit_470 : decode cX11_bit 470 = .ok (.aload_n 0, 1) := by decide +kernel
theorem dX11_bit_471 : decode cX11_bit 471 = .ok (.ldc2_w 361, 3) := by decide +kernel
theorem dX11_bit_474 : decode cX11_bit 474 = .ok (.invokevirtual 303, 3) := by decide +kernel
theorem dX11_bit_477 : decode cX11_bit 477 = .ok (.aload_n 0, 1) := by decide +kernel
theorem dX11_bit_478 : decode cX11_bit 478 = .ok (.bipush 48, 2) := by decide +kernel
theorem dX11_bit_480 : decode cX11_bit 480 = .ok (.iload_n 1, 1) := by decide +kernel
theorem dX11_bit_481 : decode cX11_bit 481 = .ok (.iadd, 1) := by decide +kernel
theorem dX11_bit_482 : decode cX11_bit 482 = .ok (.invokevirtual 292, 3) := by decide +kernel
theorem dX11_bit_485 : decode cX11_bit 485 = .ok (.aload_n 0, 1) := by decide +kernel
theorem dX11_bit_486 : decode cX11_bit 486 = .ok (.ldc2_w 365, 3) := by decide +kernel
theorem dX11_bit_489 : decode cX11_bit 489 = .ok (.invokevirtual 303, 3) := by decide +kernel
theorem dX11_bit_492 : decode cX11_bit 492 = .ok (.aload_n 0, 1) := by decide +kernel
theorem dX11_bit_493 : decode cX11_bit 493 = .ok (.bipush 48, 2) := by decide +kernel
theorem dX11_bit_495 : decode cX11_bit 495 = .ok (.iload_n 1, 1) := by decide +kernel
theorem dX11_bit_496 : decode cX11_bit 496 = .ok (.iadd, 1) := by decide +kernel
theorem dX11_bit_497 : decode cX11_bit 497 = .ok (.invokevirtual 292, 3) := by decide +kernel
theorem dX11_bit_500 : decode cX11_bit 500 = .ok (.aload_n 0, 1) := by decide +kernel
theorem dX11_bit_501 : decode cX11_bit 501 = .ok (.ldc2_w 367, 3) := by decide +kernel
theorem dX11_bit_504 : decode cX11_bit 504 = .ok (.invokevirtual 303, 3) := by decide +kernel
theorem dX11_bit_507 : decode cX11_bit 507 = .ok (.aload_n 0, 1) := by decide +kernel
theorem dX11_bit_508 : decode cX11_bit 508 = .ok (.bipush 49, 2) := by decide +kernel
theorem dX11_bit_510 : decode cX11_bit 510 = .ok (.iload_n 1, 1) := by decide +kernel
theorem dX11_bit_511 : decode cX11_bit 511 = .ok (.iadd, 1) := by decide +kernel
theorem dX11_bit_512 : decode cX11_bit 512 = .ok (.invokevirtual 292, 3) := by decide +kernel
theorem dX11_bit_515 : decode cX11_bit 515 = .ok (.aload_n 0, 1) := by decide +kernel
theorem dX11_bit_516 : decode cX11_bit 516 = .ok (.ldc2_w 335, 3) := by decide +kernel
theorem dX11_bit_519 : decode cX11_bit 519 = .ok (.invokevirtual 303, 3) := by decide +kernel
theorem dX11_bit_522 : decode cX11_bit 522 = .ok (.aload_n 0, 1) := by decide +kernel
theorem dX11_bit_523 : decode cX11_bit 523 = .ok (.ldc2_w 355, 3) := by decide +kernel
theorem dX11_bit_526 : decode cX11_bit 526 = .ok (.invokevirtual 303, 3) := by decide +kernel
theorem dX11_bit_529 : decode cX11_bit 529 = .ok (.aload_n 0, 1) := by decide +kernel
theorem dX11_bit_530 : decode cX11_bit 530 = .ok (.bipush 48, 2) := by decide +kernel
theorem dX11_bit_532 : decode cX11_bit 532 = .ok (.iload_n 1, 1) := by decide +kernel
theorem dX11_bit_533 : decode cX11_bit 533 = .ok (.iadd, 1) := by decide +kernel
theorem dX11_bit_534 : decode cX11_bit 534 = .ok (.invokevirtual 292, 3) := by decide +kernel
theorem dX11_bit_537 : decode cX11_bit 537 = .ok (.aload_n 0, 1) := by decide +kernel
theorem dX11_bit_538 : decode cX11_bit 538 = .ok (.ldc2_w 369, 3) := by decide +kernel
theorem dX11_bit_541 : decode cX11_bit 541 = .ok (.invokevirtual 303, 3) := by decide +kernel
theorem dX11_bit_544 : decode cX11_bit 544 = .ok (.aload_n 0, 1) := by decide +kernel
theorem dX11_bit_545 : decode cX11_bit 545 = .ok (.bipush 48, 2) := by decide +kernel
theorem dX11_bit_547 : decode cX11_bit 547 = .ok (.iload_n 1, 1) := by decide +kernel
theorem dX11_bit_548 : decode cX11_bit 548 = .ok (.iadd, 1) := by decide +kernel
theorem dX11_bit_549 : decode cX11_bit 549 = .ok (.invokevirtual 292, 3) := by decide +kernel
theorem dX11_bit_552 : decode cX11_bit 552 = .ok (.aload_n 0, 1) := by decide +kernel
theorem dX11_bit_553 : decode cX11_bit 553 = .ok (.ldc2_w 371, 3) := by decide +kernel
theorem dX11_bit_556 : decode cX11_bit 556 = .ok (.invokevirtual 303, 3) := by decide +kernel
theorem dX11_bit_559 : decode cX11_bit 559 = .ok (.aload_n 0, 1) := by decide +kernel
theorem dX11_bit_560 : decode cX11_bit 560 = .ok (.ldc2_w 373, 3) := by decide +kernel
theorem dX11_bit_563 : decode cX11_bit 563 = .ok (.invokevirtual 303, 3) := by decide +kernel
theorem dX11_bit_566 : decode cX11_bit 566 = .ok (.aload_n 0, 1) := by decide +kernel
theorem dX11_bit_567 : decode cX11_bit 567 = .ok (.bipush 48, 2) := by decide +kernel
theorem dX11_bit_569 : decode cX11_bit 569 = .ok (.iload_n 1, 1) := by decide +kernel
theorem dX11_bit_570 : decode cX11_bit 570 = .ok (.iadd, 1) := by decide +kernel
theorem dX11_bit_571 : decode cX11_bit 571 = .ok (.invokevirtual 292, 3) := by decide +kernel
theorem dX11_bit_574 : decode cX11_bit 574 = .ok (.aload_n 0, 1) := by decide +kernel
theorem dX11_bit_575 : decode cX11_bit 575 = .ok (.ldc2_w 365, 3) := by decide +kernel
theorem dX11_bit_578 : decode cX11_bit 578 = .ok (.invokevirtual 303, 3) := by decide +kernel
theorem dX11_bit_581 : decode cX11_bit 581 = .ok (.aload_n 0, 1) := by decide +kernel
theorem dX11_bit_582 : decode cX11_bit 582 = .ok (.bipush 48, 2) := by decide +kernel
theorem dX11_bit_584 : decode cX11_bit 584 = .ok (.iload_n 1, 1) := by decide +kernel
theorem dX11_bit_585 : decode cX11_bit 585 = .ok (.iadd, 1) := by decide +kernel
theorem dX11_bit_586 : decode cX11_bit 586 = .ok (.invokevirtual 292, 3) := by decide +kernel
theorem dX11_bit_589 : decode cX11_bit 589 = .ok (.aload_n 0, 1) := by decide +kernel
theorem dX11_bit_590 : decode cX11_bit 590 = .ok (.ldc2_w 375, 3) := by decide +kernel
theorem dX11_bit_593 : decode cX11_bit 593 = .ok (.invokevirtual 303, 3) := by decide +kernel
theorem dX11_bit_596 : decode cX11_bit 596 = .ok (.aload_n 0, 1) := by decide +kernel
theorem dX11_bit_597 : decode cX11_bit 597 = .ok (.ldc2_w 373, 3) := by decide +kernel
theorem dX11_bit_600 : decode cX11_bit 600 = .ok (.invokevirtual 303, 3) := by decide +kernel
theorem dX11_bit_603 : decode cX11_bit 603 = .ok (.aload_n 0, 1) := by decide +kernel
theorem dX11_bit_604 : decode cX11_bit 604 = .ok (.bipush 48, 2) := by decide +kernel
theorem dX11_bit_606 : decode cX11_bit 606 = .ok (.iload_n 1, 1) := by decide +kernel
theorem dX11_bit_607 : decode cX11_bit 607 = .ok (.iadd, 1) := by decide +kernel
theorem dX11_bit_608 : decode cX11_bit 608 = .ok (.invokevirtual 292, 3) := by decide +kernel
theorem dX11_bit_611 : decode cX11_bit 611 = .ok (.aload_n 0, 1) := by decide +kernel
theorem dX11_bit_612 : decode cX11_bit 612 = .ok (.ldc2_w 377, 3) := by decide +kernel
theorem dX11_bit_615 : decode cX11_bit 615 = .ok (.invokevirtual 303, 3) := by decide +kernel
theorem dX11_bit_618 : decode cX11_bit 618 = .ok (.aload_n 0, 1) := by decide +kernel
theorem dX11_bit_619 : decode cX11_bit 619 = .ok (.bipush 48, 2) := by decide +kernel
theorem dX11_bit_621 : decode cX11_bit 621 = .ok (.iload_n 1, 1) := by decide +kernel
theorem dX11_bit_622 : decode cX11_bit 622 = .ok (.iadd, 1) := by decide +kernel
theorem dX11_bit_623 : decode cX11_bit 623 = .ok (.invokevirtual 292, 3) := by decide +kernel
theorem dX11_bit_626 : decode cX11_bit 626 = .ok (.aload_n 0, 1) := by decide +kernel
theorem dX11_bit_627 : decode cX11_bit 627 = .ok (.ldc2_w 379, 3) := by decide +kernel
theorem dX11_bit_630 : decode cX11_bit 630 = .ok (.invokevirtual 303, 3) := by decide +kernel
theorem dX11_bit_633 : decode cX11_bit 633 = .ok (.aload_n 0, 1) := by decide +kernel
theorem dX11_bit_634 : decode cX11_bit 634 = .ok (.ldc2_w 373, 3) := by decide +kernel
theorem dX11_bit_637 : decode cX11_bit 637 = .ok (.invokevirtual 303, 3) := by decide +kernel
theorem dX11_bit_640 : decode cX11_bit 640 = .ok (.aload_n 0, 1) := by decide +kernel
theorem dX11_bit_641 : decode cX11_bit 641 = .ok (.bipush 48, 2) := by decide +kernel
theorem dX11_bit_643 : decode cX11_bit 643 = .ok (.iload_n 1, 1) := by decide +kernel
theorem dX11_bit_644 : decode cX11_bit 644 = .ok (.iadd, 1) := by decide +kernel
theorem dX11_bit_645 : decode cX11_bit 645 = .ok (.invokevirtual 292, 3) := by decide +kernel
theorem dX11_bit_648 : decode cX11_bit 648 = .ok (.aload_n 0, 1) := by decide +kernel
theorem dX11_bit_649 : decode cX11_bit 649 = .ok (.ldc2_w 381, 3) := by decide +kernel
theorem dX11_bit_652 : decode cX11_bit 652 = .ok (.invokevirtual 303, 3) := by decide +kernel
theorem dX11_bit_655 : decode cX11_bit 655 = .ok (.aload_n 0, 1) := by decide +kernel
theorem dX11_bit_656 : decode cX11_bit 656 = .ok (.bipush 48, 2) := by decide +kernel
theorem dX11_bit_658 : decode cX11_bit 658 = .ok (.iload_n 1, 1) := by decide +kernel
theorem dX11_bit_659 : decode cX11_bit 659 = .ok (.iadd, 1) := by decide +kernel
theorem dX11_bit_660 : decode cX11_bit 660 = .ok (.invokevirtual 292, 3) := by decide +kernel
theorem dX11_bit_663 : decode cX11_bit 663 = .ok (.aload_n 0, 1) := by decide +kernel
theorem dX11_bit_664 : decode cX11_bit 664 = .ok (.ldc2_w 383, 3) := by decide +kernel
theorem dX11_bit_667 : decode cX11_bit 667 = .ok (.invokevirtual 303, 3) := by decide +kernel
theorem dX11_bit_670 : decode cX11_bit 670 = .ok (.aload_n 0, 1) := by decide +kernel
theorem dX11_bit_671 : decode cX11_bit 671 = .ok (.ldc2_w 385, 3) := by decide +kernel
theorem dX11_bit_674 : decode cX11_bit 674 = .ok (.invokevirtual 303, 3) := by decide +kernel
theorem dX11_bit_677 : decode cX11_bit 677 = .ok (.aload_n 0, 1) := by decide +kernel
theorem dX11_bit_678 : decode cX11_bit 678 = .ok (.bipush 48, 2) := by decide +kernel
theorem dX11_bit_680 : decode cX11_bit 680 = .ok (.iload_n 1, 1) := by decide +kernel
theorem dX11_bit_681 : decode cX11_bit 681 = .ok (.iadd, 1) := by decide +kernel
theorem dX11_bit_682 : decode cX11_bit 682 = .ok (.invokevirtual 292, 3) := by decide +kernel
theorem dX11_bit_685 : decode cX11_bit 685 = .ok (.aload_n 0, 1) := by decide +kernel
theorem dX11_bit_686 : decode cX11_bit 686 = .ok (.ldc2_w 333, 3) := by decide +kernel
theorem dX11_bit_689 : decode cX11_bit 689 = .ok (.invokevirtual 303, 3) := by decide +kernel
theorem dX11_bit_692 : decode cX11_bit 692 = .ok (.aload_n 0, 1) := by decide +kernel
theorem dX11_bit_693 : decode cX11_bit 693 = .ok (.bipush 48, 2) := by decide +kernel
theorem dX11_bit_695 : decode cX11_bit 695 = .ok (.iload_n 1, 1) := by decide +kernel
theorem dX11_bit_696 : decode cX11_bit 696 = .ok (.iadd, 1) := by decide +kernel
theorem dX11_bit_697 : decode cX11_bit 697 = .ok (.invokevirtual 292, 3) := by decide +kernel
theorem dX11_bit_700 : decode cX11_bit 700 = .ok (.aload_n 0, 1) := by decide +kernel
theorem dX11_bit_701 : decode cX11_bit 701 = .ok (.ldc2_w 339, 3) := by decide +kernel
theorem dX11_bit_704 : decode cX11_bit 704 = .ok (.invokevirtual 303, 3) := by decide +kernel
theorem dX11_bit_707 : decode cX11_bit 707 = .ok (.aload_n 0, 1) := by decide +kernel
theorem dX11_bit_708 : decode cX11_bit 708 = .ok (.bipush 48, 2) := by decide +kernel
theorem dX11_bit_710 : decode cX11_bit 710 = .ok (.iload_n 1, 1) := by decide +kernel
theorem dX11_bit_711 : decode cX11_bit 711 = .ok (.iadd, 1) := by decide +kernel
theorem dX11_bit_712 : decode cX11_bit 712 = .ok (.invokevirtual 292, 3) := by decide +kernel
theorem dX11_bit_715 : decode cX11_bit 715 = .ok (.aload_n 0, 1) := by decide +kernel
theorem dX11_bit_716 : decode cX11_bit 716 = .ok (.ldc2_w 387, 3) := by decide +kernel
theorem dX11_bit_719 : decode cX11_bit 719 = .ok (.invokevirtual 303, 3) := by decide +kernel
theorem dX11_bit_722 : decode cX11_bit 722 = .ok (.aload_n 0, 1) := by decide +kernel
theorem dX11_bit_723 : decode cX11_bit 723 = .ok (.ldc2_w 389, 3) := by decide +kernel
theorem dX11_bit_726 : decode cX11_bit 726 = .ok (.invokevirtual 303, 3) := by decide +kernel
theorem dX11_bit_729 : decode cX11_bit 729 = .ok (.aload_n 0, 1) := by decide +kernel
theorem dX11_bit_730 : decode cX11_bit 730 = .ok (.bipush 48, 2) := by decide +kernel
theorem dX11_bit_732 : decode cX11_bit 732 = .ok (.iload_n 1, 1) := by decide +kernel
theorem dX11_bit_733 : decode cX11_bit 733 = .ok (.iadd, 1) := by decide +kernel
theorem dX11_bit_734 : decode cX11_bit 734 = .ok (.invokevirtual 292, 3) := by decide +kernel
theorem dX11_bit_737 : decode cX11_bit 737 = .ok (.aload_n 0, 1) := by decide +kernel
theorem dX11_bit_738 : decode cX11_bit 738 = .ok (.ldc2_w 333, 3) := by decide +kernel
theorem dX11_bit_741 : decode cX11_bit 741 = .ok (.invokevirtual 303, 3) := by decide +kernel
theorem dX11_bit_744 : decode cX11_bit 744 = .ok (.aload_n 0, 1) := by decide +kernel
theorem dX11_bit_745 : decode cX11_bit 745 = .ok (.bipush 48, 2) := by decide +kernel
theorem dX11_bit_747 : decode cX11_bit 747 = .ok (.iload_n 1, 1) := by decide +kernel
theorem dX11_bit_748 : decode cX11_bit 748 = .ok (.iadd, 1) := by decide +kernel
theorem dX11_bit_749 : decode cX11_bit 749 = .ok (.invokevirtual 292, 3) := by decide +kernel
theorem dX11_bit_752 : decode cX11_bit 752 = .ok (.aload_n 0, 1) := by decide +kernel
theorem dX11_bit_753 : decode cX11_bit 753 = .ok (.ldc2_w 391, 3) := by decide +kernel
theorem dX11_bit_756 : decode cX11_bit 756 = .ok (.invokevirtual 303, 3) := by decide +kernel
theorem dX11_bit_759 : decode cX11_bit 759 = .ok (.aload_n 0, 1) := by decide +kernel
theorem dX11_bit_760 : decode cX11_bit 760 = .ok (.bipush 48, 2) := by decide +kernel
theorem dX11_bit_762 : decode cX11_bit 762 = .ok (.iload_n 1, 1) := by decide +kernel
theorem dX11_bit_763 : decode cX11_bit 763 = .ok (.iadd, 1) := by decide +kernel
theorem dX11_bit_764 : decode cX11_bit 764 = .ok (.invokevirtual 292, 3) := by decide +kernel
theorem dX11_bit_767 : decode cX11_bit 767 = .ok (.aload_n 0, 1) := by decide +kernel
theorem dX11_bit_768 : decode cX11_bit 768 = .ok (.ldc2_w 393, 3) := by decide +kernel
theorem dX11_bit_771 : decode cX11_bit 771 = .ok (.invokevirtual 303, 3) := by decide +kernel
theorem dX11_bit_774 : decode cX11_bit 774 = .ok (.aload_n 0, 1) := by decide +kernel
theorem dX11_bit_775 : decode cX11_bit 775 = .ok (.ldc2_w 361, 3) := by decide +kernel
theorem dX11_bit_778 : decode cX11_bit 778 = .ok (.invokevirtual 303, 3) := by decide +kernel
theorem dX11_bit_781 : decode cX11_bit 781 = .ok (.aload_n 0, 1) := by decide +kernel
theorem dX11_bit_782 : decode cX11_bit 782 = .ok (.bipush 48, 2) := by decide +kernel
theorem dX11_bit_784 : decode cX11_bit 784 = .ok (.iload_n 1, 1) := by decide +kernel
theorem dX11_bit_785 : decode cX11_bit 785 = .ok (.iadd, 1) := by decide +kernel
theorem dX11_bit_786 : decode cX11_bit 786 = .ok (.invokevirtual 292, 3) := by decide +kernel
theorem dX11_bit_789 : decode cX11_bit 789 = .ok (.aload_n 0, 1) := by decide +kernel
theorem dX11_bit_790 : decode cX11_bit 790 = .ok (.ldc2_w 395, 3) := by decide +kernel
theorem dX11_bit_793 : decode cX11_bit 793 = .ok (.invokevirtual 303, 3) := by decide +kernel
theorem dX11_bit_796 : decode cX11_bit 796 = .ok (.aload_n 0, 1) := by decide +kernel
theorem dX11_bit_797 : decode cX11_bit 797 = .ok (.bipush 48, 2) := by decide +kernel
theorem dX11_bit_799 : decode cX11_bit 799 = .ok (.iload_n 1, 1) := by decide +kernel
theorem dX11_bit_800 : decode cX11_bit 800 = .ok (.iadd, 1) := by decide +kernel
theorem dX11_bit_801 : decode cX11_bit 801 = .ok (.invokevirtual 292, 3) := by decide +kernel
theorem dX11_bit_804 : decode cX11_bit 804 = .ok (.aload_n 0, 1) := by decide +kernel
theorem dX11_bit_805 : decode cX11_bit 805 = .ok (.ldc2_w 397, 3) := by decide +kernel
theorem dX11_bit_808 : decode cX11_bit 808 = .ok (.invokevirtual 303, 3) := by decide +kernel
theorem dX11_bit_811 : decode cX11_bit 811 = .ok (.aload_n 0, 1) := by decide +kernel
theorem dX11_bit_812 : decode cX11_bit 812 = .ok (.bipush 48, 2) := by decide +kernel
theorem dX11_bit_814 : decode cX11_bit 814 = .ok (.iload_n 1, 1) := by decide +kernel
theorem dX11_bit_815 : decode cX11_bit 815 = .ok (.iadd, 1) := by decide +kernel
theorem dX11_bit_816 : decode cX11_bit 816 = .ok (.invokevirtual 292, 3) := by decide +kernel
theorem dX11_bit_819 : decode cX11_bit 819 = .ok (.aload_n 0, 1) := by decide +kernel
theorem dX11_bit_820 : decode cX11_bit 820 = .ok (.ldc2_w 399, 3) := by decide +kernel
theorem dX11_bit_823 : decode cX11_bit 823 = .ok (.invokevirtual 303, 3) := by decide +kernel
theorem dX11_bit_826 : decode cX11_bit 826 = .ok (.aload_n 0, 1) := by decide +kernel
theorem dX11_bit_827 : decode cX11_bit 827 = .ok (.ldc2_w 401, 3) := by decide +kernel
theorem dX11_bit_830 : decode cX11_bit 830 = .ok (.invokevirtual 303, 3) := by decide +kernel
theorem dX11_bit_833 : decode cX11_bit 833 = .ok (.aload_n 0, 1) := by decide +kernel
theorem dX11_bit_834 : decode cX11_bit 834 = .ok (.bipush 48, 2) := by decide +kernel
theorem dX11_bit_836 : decode cX11_bit 836 = .ok (.iload_n 1, 1) := by decide +kernel
theorem dX11_bit_837 : decode cX11_bit 837 = .ok (.iadd, 1) := by decide +kernel
theorem dX11_bit_838 : decode cX11_bit 838 = .ok (.invokevirtual 292, 3) := by decide +kernel
theorem dX11_bit_841 : decode cX11_bit 841 = .ok (.aload_n 0, 1) := by decide +kernel
theorem dX11_bit_842 : decode cX11_bit 842 = .ok (.ldc2_w 403, 3) := by decide +kernel
theorem dX11_bit_845 : decode cX11_bit 845 = .ok (.invokevirtual 303, 3) := by decide +kernel
theorem dX11_bit_848 : decode cX11_bit 848 = .ok (.aload_n 0, 1) := by decide +kernel
theorem dX11_bit_849 : decode cX11_bit 849 = .ok (.bipush 48, 2) := by decide +kernel
theorem dX11_bit_851 : decode cX11_bit 851 = .ok (.iload_n 1, 1) := by decide +kernel
theorem dX11_bit_852 : decode cX11_bit 852 = .ok (.iadd, 1) := by decide +kernel
theorem dX11_bit_853 : decode cX11_bit 853 = .ok (.invokevirtual 292, 3) := by decide +kernel
theorem dX11_bit_856 : decode cX11_bit 856 = .ok (.aload_n 0, 1) := by decide +kernel
theorem dX11_bit_857 : decode cX11_bit 857 = .ok (.ldc2_w 405, 3) := by decide +kernel
theorem dX11_bit_860 : decode cX11_bit 860 = .ok (.invokevirtual 303, 3) := by decide +kernel
theorem dX11_bit_863 : decode cX11_bit 863 = .ok (.aload_n 0, 1) := by decide +kernel
theorem dX11_bit_864 : decode cX11_bit 864 = .ok (.bipush 48, 2) := by decide +kernel
theorem dX11_bit_866 : decode cX11_bit 866 = .ok (.iload_n 1, 1) := by decide +kernel
theorem dX11_bit_867 : decode cX11_bit 867 = .ok (.iadd, 1) := by decide +kernel
theorem dX11_bit_868 : decode cX11_bit 868 = .ok (.invokevirtual 292, 3) := by decide +kernel
theorem dX11_bit_871 : decode cX11_bit 871 = .ok (.aload_n 0, 1) := by decide +kernel
theorem dX11_bit_872 : decode cX11_bit 872 = .ok (.ldc2_w 407, 3) := by decide +kernel
theorem dX11_bit_875 : decode cX11_bit 875 = .ok (.invokevirtual 303, 3) := by decide +kernel
theorem dX11_bit_878 : decode cX11_bit 878 = .ok (.aload_n 0, 1) := by decide +kernel
theorem dX11_bit_879 : decode cX11_bit 879 = .ok (.ldc2_w 401, 3) := by decide +kernel
theorem dX11_bit_882 : decode cX11_bit 882 = .ok (.invokevirtual 303, 3) := by decide +kernel
theorem dX11_bit_885 : decode cX11_bit 885 = .ok (.aload_n 0, 1) := by decide +kernel
theorem dX11_bit_886 : decode cX11_bit 886 = .ok (.bipush 48, 2) := by decide +kernel
theorem dX11_bit_888 : decode cX11_bit 888 = .ok (.iload_n 1, 1) := by decide +kernel
theorem dX11_bit_889 : decode cX11_bit 889 = .ok (.iadd, 1) := by decide +kernel
theorem dX11_bit_890 : decode cX11_bit 890 = .ok (.invokevirtual 292, 3) := by decide +kernel
theorem dX11_bit_893 : decode cX11_bit 893 = .ok (.aload_n 0, 1) := by decide +kernel
theorem dX11_bit_894 : decode cX11_bit 894 = .ok (.ldc2_w 409, 3) := by decide +kernel
theorem dX11_bit_897 : decode cX11_bit 897 = .ok (.invokevirtual 303, 3) := by decide +kernel
theorem dX11_bit_900 : decode cX11_bit 900 = .ok (.aload_n 0, 1) := by decide +kernel
theorem dX11_bit_901 : decode cX11_bit 901 = .ok (.bipush 48, 2) := by decide +kernel
theorem dX11_bit_903 : decode cX11_bit 903 = .ok (.iload_n 1, 1) := by decide +kernel
theorem dX11_bit_904 : decode cX11_bit 904 = .ok (.iadd, 1) := by decide +kernel
theorem dX11_bit_905 : decode cX11_bit 905 = .ok (.invokevirtual 292, 3) := by decide +kernel
theorem dX11_bit_908 : decode cX11_bit 908 = .ok (.aload_n 0, 1) := by decide +kernel
theorem dX11_bit_909 : decode cX11_bit 909 = .ok (.ldc2_w 411, 3) := by decide +kernel
theorem dX11_bit_912 : decode cX11_bit 912 = .ok (.invokevirtual 303, 3) := by decide +kernel
theorem dX11_bit_915 : decode cX11_bit 915 = .ok (.aload_n 0, 1) := by decide +kernel
theorem dX11_bit_916 : decode cX11_bit 916 = .ok (.ldc2_w 413, 3) := by decide +kernel
theorem dX11_bit_919 : decode cX11_bit 919 = .ok (.invokevirtual 303, 3) := by decide +kernel
theorem dX11_bit_922 : decode cX11_bit 922 = .ok (.aload_n 0, 1) := by decide +kernel
theorem dX11_bit_923 : decode cX11_bit 923 = .ok (.bipush 48, 2) := by decide +kernel
theorem dX11_bit_925 : decode cX11_bit 925 = .ok (.iload_n 1, 1) := by decide +kernel
theorem dX11_bit_926 : decode cX11_bit 926 = .ok (.iadd, 1) := by decide +kernel
theorem dX11_bit_927 : decode cX11_bit 927 = .ok (.invokevirtual 292, 3) := by decide +kernel
theorem dX11_bit_930 : decode cX11_bit 930 = .ok (.aload_n 0, 1) := by decide +kernel
theorem dX11_bit_931 : decode cX11_bit 931 = .ok (.ldc2_w 415, 3) := by decide +kernel
theorem dX11_bit_934 : decode cX11_bit 934 = .ok (.invokevirtual 303, 3) := by decide +kernel
theorem dX11_bit_937 : decode cX11_bit 937 = .ok (.aload_n 0, 1) := by decide +kernel
theorem dX11_bit_938 : decode cX11_bit 938 = .ok (.bipush 48, 2) := by decide +kernel
theorem dX11_bit_940 : decode cX11_bit 940 = .ok (.iload_n 1, 1) := by decide +kernel
theorem dX11_bit_941 : decode cX11_bit 941 = .ok (.iadd, 1) := by decide +kernel
theorem dX11_bit_942 : decode cX11_bit 942 = .ok (.invokevirtual 292, 3) := by decide +kernel
theorem dX11_bit_945 : decode cX11_bit 945 = .ok (.aload_n 0, 1) := by decide +kernel
theorem dX11_bit_946 : decode cX11_bit 946 = .ok (.ldc2_w 417, 3) := by decide +kernel
theorem dX11_bit_949 : decode cX11_bit 949 = .ok (.invokevirtual 303, 3) := by decide +kernel
theorem dX11_bit_952 : decode cX11_bit 952 = .ok (.return_, 1) := by decide +kernel
theorem dX11_ending_0 : decode cX11_ending 0 = .ok (.aload_n 0, 1) := by decide +kernel
theorem dX11_ending_1 : decode cX11_ending 1 = .ok (.ldc2_w 419, 3) := by decide +kernel
theorem dX11_ending_4 : decode cX11_ending 4 = .ok (.invokevirtual 303, 3) := by decide +kernel
theorem dX11_ending_7 : decode cX11_ending 7 = .ok (.aload_n 0, 1) := by decide +kernel
theorem dX11_ending_8 : decode cX11_ending 8 = .ok (.bipush 48, 2) := by decide +kernel
theorem dX11_ending_10 : decode cX11_ending 10 = .ok (.iload_n 1, 1) := by decide +kernel
theorem dX11_ending_11 : decode cX11_ending 11 = .ok (.iadd, 1) := by decide +kernel
theorem dX11_ending_12 : decode cX11_ending 12 = .ok (.invokevirtual 292, 3) := by decide +kernel
theorem dX11_ending_15 : decode cX11_ending 15 = .ok (.aload_n 0, 1) := by decide +kernel
theorem dX11_ending_16 : decode cX11_ending 16 = .ok (.ldc2_w 415, 3) := by decide +kernel
theorem dX11_ending_19 : decode cX11_ending 19 = .ok (.invokevirtual 303, 3) := by decide +kernel
theorem dX11_ending_22 : decode cX11_ending 22 = .ok (.aload_n 0, 1) := by decide +kernel
theorem dX11_ending_23 : decode cX11_ending 23 = .ok (.bipush 48, 2) := by decide +kernel
theorem dX11_ending_25 : decode cX11_ending 25 = .ok (.iload_n 1, 1) := by decide +kernel
theorem dX11_ending_26 : decode cX11_ending 26 = .ok (.iadd, 1) := by decide +kernel
theorem dX11_ending_27 : decode cX11_ending 27 = .ok (.invokevirtual 292, 3) := by decide +kernel
theorem dX11_ending_30 : decode cX11_ending 30 = .ok (.aload_n 0, 1) := by decide +kernel
theorem dX11_ending_31 : decode cX11_ending 31 = .ok (.ldc2_w 327, 3) := by decide +kernel
theorem dX11_ending_34 : decode cX11_ending 34 = .ok (.invokevirtual 303, 3) := by decide +kernel
theorem dX11_ending_37 : decode cX11_ending 37 = .ok (.aload_n 0, 1) := by decide +kernel
theorem dX11_ending_38 : decode cX11_ending 38 = .ok (.ldc2_w 421, 3) := by decide +kernel
theorem dX11_ending_41 : decode cX11_ending 41 = .ok (.invokevirtual 303, 3) := by decide +kernel
theorem dX11_ending_44 : decode cX11_ending 44 = .ok (.aload_n 0, 1) := by decide +kernel
theorem dX11_ending_45 : decode cX11_ending 45 = .ok (.ldc2_w 423, 3) := by decide +kernel
theorem dX11_ending_48 : decode cX11_ending 48 = .ok (.invokevirtual 303, 3) := by decide +kernel
theorem dX11_ending_51 : decode cX11_ending 51 = .ok (.return_, 1) := by decide +kernel
theorem dX11_wrong_0 : decode cX11_wrong 0 = .ok (.iload_n 1, 1) := by decide +kernel
theorem dX11_wrong_1 : decode cX11_wrong 1 = .ok (.ifCond .ne 10, 3) := by decide +kernel
theorem dX11_wrong_4 : decode cX11_wrong 4 = .ok (.aload_n 0, 1) := by decide +kernel
theorem dX11_wrong_5 : decode cX11_wrong 5 = .ok (.getfield 287, 3) := by decide +kernel
theorem dX11_wrong_8 : decode cX11_wrong 8 = .ok (.goto 16, 3) := by decide +kernel
theorem dX11_wrong_11 : decode cX11_wrong 11 = .ok (.iload_n 1, 1) := by decide +kernel
theorem dX11_wrong_12 : decode cX11_wrong 12 = .ok (.iconst 1, 1) := by decide +kernel
theorem dX11_wrong_13 : decode cX11_wrong 13 = .ok (.if_icmp .ne 10, 3) := by decide +kernel
theorem dX11_wrong_16 : decode cX11_wrong 16 = .ok (.aload_n 0, 1) := by decide +kernel
theorem dX11_wrong_17 : decode cX11_wrong 17 = .ok (.getfield 30, 3) := by decide +kernel
theorem dX11_wrong_20 : decode cX11_wrong 20 = .ok (.goto 4, 3) := by decide +kernel
theorem dX11_wrong_23 : decode cX11_wrong 23 = .ok (.iconst (-1), 1) := by decide +kernel
theorem dX11_wrong_24 : decode cX11_wrong 24 = .ok (.ireturn, 1) := by decide +kernel
theorem dX11_here_0 : decode cX11_here 0 = .ok (.aload_n 0, 1) := by decide +kernel
theorem dX11_here_1 : decode cX11_here 1 = .ok (.getfield 34, 3) := by decide +kernel
theorem dX11_here_4 : decode cX11_here 4 = .ok (.iconst 5, 1) := by decide +kernel
theorem dX11_here_5 : decode cX11_here 5 = .ok (.aload_n 0, 1) := by decide +kernel
theorem dX11_here_6 : decode cX11_here 6 = .ok (.getfield 269, 3) := by decide +kernel
theorem dX11_here_9 : decode cX11_here 9 = .ok (.imul, 1) := by decide +kernel
theorem dX11_here_10 : decode cX11_here 10 = .ok (.iload_n 1, 1) := by decide +kernel
theorem dX11_here_11 : decode cX11_here 11 = .ok (.iadd, 1) := by decide +kernel
theorem dX11_here_12 : decode cX11_here 12 = .ok (.iaload, 1) := by decide +kernel
theorem dX11_here_13 : decode cX11_here 13 = .ok (.ireturn, 1) := by decide +kernel
theorem dX11_endOf_0 : decode cX11_endOf 0 = .ok (.iload_n 1, 1) := by decide +kernel
theorem dX11_endOf_1 : decode cX11_endOf 1 = .ok (.ifCond .ne 14, 3) := by decide +kernel
theorem dX11_endOf_4 : decode cX11_endOf 4 = .ok (.iconst 2, 1) := by decide +kernel
theorem dX11_endOf_5 : decode cX11_endOf 5 = .ok (.bipush 20, 2) := by decide +kernel
theorem dX11_endOf_7 : decode cX11_endOf 7 = .ok (.iload_n 2, 1) := by decide +kernel
theorem dX11_endOf_8 : decode cX11_endOf 8 = .ok (.imul, 1) := by decide +kernel
theorem dX11_endOf_9 : decode cX11_endOf 9 = .ok (.iadd, 1) := by decide +kernel
theorem dX11_endOf_10 : decode cX11_endOf 10 = .ok (.iload_n 3, 1) := by decide +kernel
theorem dX11_endOf_11 : decode cX11_endOf 11 = .ok (.iadd, 1) := by decide +kernel
theorem dX11_endOf_12 : decode cX11_endOf 12 = .ok (.goto 13, 3) := by decide +kernel
theorem dX11_endOf_15 : decode cX11_endOf 15 = .ok (.iload_n 1, 1) := by decide +kernel
theorem dX11_endOf_16 : decode cX11_endOf 16 = .ok (.invokestatic 255, 3) := by decide +kernel
theorem dX11_endOf_19 : decode cX11_endOf 19 = .ok (.iconst 2, 1) := by decide +kernel
theorem dX11_endOf_20 : decode cX11_endOf 20 = .ok (.iload_n 2, 1) := by decide +kernel
theorem dX11_endOf_21 : decode cX11_endOf 21 = .ok (.imul, 1) := by decide +kernel
theorem dX11_endOf_22 : decode cX11_endOf 22 = .ok (.iadd, 1) := by decide +kernel
theorem dX11_endOf_23 : decode cX11_endOf 23 = .ok (.iload_n 3, 1) := by decide +kernel
theorem dX11_endOf_24 : decode cX11_endOf 24 = .ok (.iadd, 1) := by decide +kernel
theorem dX11_endOf_25 : decode cX11_endOf 25 = .ok (.ireturn, 1) := by decide +kernel
theorem dX11_groupOf_0 : decode cX11_groupOf 0 = .ok (.aload_n 0, 1) := by decide +kernel
theorem dX11_groupOf_1 : decode cX11_groupOf 1 = .ok (.getfield 55, 3) := by decide +kernel
theorem dX11_groupOf_4 : decode cX11_groupOf 4 = .ok (.sipush 954, 3) := by decide +kernel
theorem dX11_groupOf_7 : decode cX11_groupOf 7 = .ok (.aload_n 0, 1) := by decide +kernel
theorem dX11_groupOf_8 : decode cX11_groupOf 8 = .ok (.getfield 269, 3) := by decide +kernel
theorem dX11_groupOf_11 : decode cX11_groupOf 11 = .ok (.imul, 1) := by decide +kernel
theorem dX11_groupOf_12 : decode cX11_groupOf 12 = .ok (.iload_n 1, 1) := by decide +kernel
theorem dX11_groupOf_13 : decode cX11_groupOf 13 = .ok (.iadd, 1) := by decide +kernel
theorem dX11_groupOf_14 : decode cX11_groupOf 14 = .ok (.iaload, 1) := by decide +kernel
theorem dX11_groupOf_15 : decode cX11_groupOf 15 = .ok (.istore_n 2, 1) := by decide +kernel
theorem dX11_groupOf_16 : decode cX11_groupOf 16 = .ok (.aload_n 0, 1) := by decide +kernel
theorem dX11_groupOf_17 : decode cX11_groupOf 17 = .ok (.getfield 74, 3) := by decide +kernel
theorem dX11_groupOf_20 : decode cX11_groupOf 20 = .ok (.iload_n 2, 1) := by decide +kernel
theorem dX11_groupOf_21 : decode cX11_groupOf 21 = .ok (.iaload, 1) := by decide +kernel
theorem dX11_groupOf_22 : decode cX11_groupOf 22 = .ok (.iload_n 2, 1) := by decide +kernel
theorem dX11_groupOf_23 : decode cX11_groupOf 23 = .ok (.if_icmp .eq 13, 3) := by decide +kernel
theorem dX11_groupOf_26 : decode cX11_groupOf 26 = .ok (.aload_n 0, 1) := by decide +kernel
theorem dX11_groupOf_27 : decode cX11_groupOf 27 = .ok (.getfield 74, 3) := by decide +kernel
theorem dX11_groupOf_30 : decode cX11_groupOf 30 = .ok (.iload_n 2, 1) := by decide +kernel
theorem dX11_groupOf_31 : decode cX11_groupOf 31 = .ok (.iaload, 1) := by decide +kernel
theorem dX11_groupOf_32 : decode cX11_groupOf 32 = .ok (.istore_n 2, 1) := by decide +kernel
theorem dX11_groupOf_33 : decode cX11_groupOf 33 = .ok (.goto (-17), 3) := by decide +kernel
theorem dX11_groupOf_36 : decode cX11_groupOf 36 = .ok (.iload_n 2, 1) := by decide +kernel
theorem dX11_groupOf_37 : decode cX11_groupOf 37 = .ok (.ireturn, 1) := by decide +kernel
theorem dX11_both_0 : decode cX11_both 0 = .ok (.aload_n 0, 1) := by decide +kernel
theorem dX11_both_1 : decode cX11_both 1 = .ok (.iload_n 1, 1) := by decide +kernel
theorem dX11_both_2 : decode cX11_both 2 = .ok (.invokevirtual 425, 3) := by decide +kernel
theorem dX11_both_5 : decode cX11_both 5 = .ok (.istore_n 3, 1) := by decide +kernel
theorem dX11_both_6 : decode cX11_both 6 = .ok (.aload_n 0, 1) := by decide +kernel
theorem dX11_both_7 : decode cX11_both 7 = .ok (.iload_n 2, 1) := by decide +kernel
theorem dX11_both_8 : decode cX11_both 8 = .ok (.invokevirtual 425, 3) := by decide +kernel
theorem dX11_both_11 : decode cX11_both 11 = .ok (.istore 4, 2) := by decide +kernel
theorem dX11_both_13 : decode cX11_both 13 = .ok (.iload_n 3, 1) := by decide +kernel
theorem dX11_both_14 : decode cX11_both 14 = .ok (.iload 4, 2) := by decide +kernel
theorem dX11_both_16 : decode cX11_both 16 = .ok (.if_icmp .eq 20, 3) := by decide +kernel
theorem dX11_both_19 : decode cX11_both 19 = .ok (.aload_n 0, 1) := by decide +kernel
theorem dX11_both_20 : decode cX11_both 20 = .ok (.getfield 74, 3) := by decide +kernel
theorem dX11_both_23 : decode cX11_both 23 = .ok (.iload_n 3, 1) := by decide +kernel
theorem dX11_both_24 : decode cX11_both 24 = .ok (.iload 4, 2) := by decide +kernel
theorem dX11_both_26 : decode cX11_both 26 = .ok (.invokestatic 261, 3) := by decide +kernel
theorem dX11_both_29 : decode cX11_both 29 = .ok (.iload_n 3, 1) := by decide +kernel
theorem dX11_both_30 : decode cX11_both 30 = .ok (.iload 4, 2) := by decide +kernel
theorem dX11_both_32 : decode cX11_both 32 = .ok (.invokestatic 266, 3) := by decide +kernel
theorem dX11_both_35 : decode cX11_both 35 = .ok (.iastore, 1) := by decide +kernel
theorem dX11_both_36 : decode cX11_both 36 = .ok (.return_, 1) := by decide +kernel
theorem dX11_look_0 : decode cX11_look 0 = .ok (.iconst 0, 1) := by decide +kernel
theorem dX11_look_1 : decode cX11_look 1 = .ok (.istore_n 1, 1) := by decide +kernel
theorem dX11_look_2 : decode cX11_look 2 = .ok (.iload_n 1, 1) := by decide +kernel
theorem dX11_look_3 : decode cX11_look 3 = .ok (.sipush 954, 3) := by decide +kernel
theorem dX11_look_6 : decode cX11_look 6 = .ok (.if_icmp .ge 30, 3) := by decide +kernel
theorem dX11_look_9 : decode cX11_look 9 = .ok (.aload_n 0, 1) := by decide +kernel
theorem dX11_look_10 : decode cX11_look 10 = .ok (.getfield 74, 3) := by decide +kernel
theorem dX11_look_13 : decode cX11_look 13 = .ok (.iload_n 1, 1) := by decide +kernel
theorem dX11_look_14 : decode cX11_look 14 = .ok (.iload_n 1, 1) := by decide +kernel
theorem dX11_look_15 : decode cX11_look 15 = .ok (.iastore, 1) := by decide +kernel
theorem dX11_look_16 : decode cX11_look 16 = .ok (.aload_n 0, 1) := by decide +kernel
theorem dX11_look_17 : decode cX11_look 17 = .ok (.getfield 77, 3) := by decide +kernel
theorem dX11_look_20 : decode cX11_look 20 = .ok (.iload_n 1, 1) := by decide +kernel
theorem dX11_look_21 : decode cX11_look 21 = .ok (.iconst 0, 1) := by decide +kernel
theorem dX11_look_22 : decode cX11_look 22 = .ok (.bastore, 1) := by decide +kernel
theorem dX11_look_23 : decode cX11_look 23 = .ok (.aload_n 0, 1) := by decide +kernel
theorem dX11_look_24 : decode cX11_look 24 = .ok (.getfield 80, 3) := by decide +kernel
theorem dX11_look_27 : decode cX11_look 27 = .ok (.iload_n 1, 1) := by decide +kernel
theorem dX11_look_28 : decode cX11_look 28 = .ok (.iconst 0, 1) := by decide +kernel
theorem dX11_look_29 : decode cX11_look 29 = .ok (.bastore, 1) := by decide +kernel
theorem dX11_look_30 : decode cX11_look 30 = .ok (.iinc 1 1, 3) := by decide +kernel
theorem dX11_look_33 : decode cX11_look 33 = .ok (.goto (-31), 3) := by decide +kernel
theorem dX11_look_36 : decode cX11_look 36 = .ok (.iconst 0, 1) := by decide +kernel
theorem dX11_look_37 : decode cX11_look 37 = .ok (.istore_n 1, 1) := by decide +kernel
theorem dX11_look_38 : decode cX11_look 38 = .ok (.iload_n 1, 1) := by decide +kernel
theorem dX11_look_39 : decode cX11_look 39 = .ok (.aload_n 0, 1) := by decide +kernel
theorem dX11_look_40 : decode cX11_look 40 = .ok (.iconst 0, 1) := by decide +kernel
theorem dX11_look_41 : decode cX11_look 41 = .ok (.invokevirtual 428, 3) := by decide +kernel
theorem dX11_look_44 : decode cX11_look 44 = .ok (.if_icmp .ge 41, 3) := by decide +kernel
theorem dX11_look_47 : decode cX11_look 47 = .ok (.iconst 0, 1) := by decide +kernel
theorem dX11_look_48 : decode cX11_look 48 = .ok (.istore_n 2, 1) := by decide +kernel
theorem dX11_look_49 : decode cX11_look 49 = .ok (.iload_n 2, 1) := by decide +kernel
theorem dX11_look_50 : decode cX11_look 50 = .ok (.aload_n 0, 1) := by decide +kernel
theorem dX11_look_51 : decode cX11_look 51 = .ok (.getfield 46, 3) := by decide +kernel
theorem dX11_look_54 : decode cX11_look 54 = .ok (.bipush 116, 2) := by decide +kernel
theorem dX11_look_56 : decode cX11_look 56 = .ok (.aload_n 0, 1) := by decide +kernel
theorem dX11_look_57 : decode cX11_look 57 = .ok (.getfield 269, 3) := by decide +kernel
theorem dX11_look_60 : decode cX11_look 60 = .ok (.imul, 1) := by decide +kernel
theorem dX11_look_61 : decode cX11_look 61 = .ok (.iload_n 1, 1) := by decide +kernel
theorem dX11_look_62 : decode cX11_look 62 = .ok (.iadd, 1) := by decide +kernel
theorem dX11_look_63 : decode cX11_look 63 = .ok (.iaload, 1) := by decide +kernel
theorem dX11_look_64 : decode cX11_look 64 = .ok (.if_icmp .ge 15, 3) := by decide +kernel
theorem dX11_look_67 : decode cX11_look 67 = .ok (.aload_n 0, 1) := by decide +kernel
theorem dX11_look_68 : decode cX11_look 68 = .ok (.iload_n 1, 1) := by decide +kernel
theorem dX11_look_69 : decode cX11_look 69 = .ok (.iload_n 2, 1) := by decide +kernel
theorem dX11_look_70 : decode cX11_look 70 = .ok (.invokevirtual 431, 3) := by decide +kernel
theorem dX11_look_73 : decode cX11_look 73 = .ok (.iinc 2 1, 3) := by decide +kernel
theorem dX11_look_76 : decode cX11_look 76 = .ok (.goto (-27), 3) := by decide +kernel
theorem dX11_look_79 : decode cX11_look 79 = .ok (.iinc 1 1, 3) := by decide +kernel
theorem dX11_look_82 : decode cX11_look 82 = .ok (.goto (-44), 3) := by decide +kernel
theorem dX11_look_85 : decode cX11_look 85 = .ok (.iconst 0, 1) := by decide +kernel
theorem dX11_look_86 : decode cX11_look 86 = .ok (.istore_n 1, 1) := by decide +kernel
theorem dX11_look_87 : decode cX11_look 87 = .ok (.iload_n 1, 1) := by decide +kernel
theorem dX11_look_88 : decode cX11_look 88 = .ok (.aload_n 0, 1) := by decide +kernel
theorem dX11_look_89 : decode cX11_look 89 = .ok (.iconst 1, 1) := by decide +kernel
theorem dX11_look_90 : decode cX11_look 90 = .ok (.invokevirtual 428, 3) := by decide +kernel
theorem dX11_look_93 : decode cX11_look 93 = .ok (.if_icmp .ge 41, 3) := by decide +kernel
theorem dX11_look_96 : decode cX11_look 96 = .ok (.aload_n 0, 1) := by decide +kernel
theorem dX11_look_97 : decode cX11_look 97 = .ok (.getfield 65, 3) := by decide +kernel
theorem dX11_look_100 : decode cX11_look 100 = .ok (.sipush 320, 3) := by decide +kernel
theorem dX11_look_103 : decode cX11_look 103 = .ok (.iload_n 1, 1) := by decide +kernel
theorem dX11_look_104 : decode cX11_look 104 = .ok (.iadd, 1) := by decide +kernel
theorem dX11_look_105 : decode cX11_look 105 = .ok (.iaload, 1) := by decide +kernel
theorem dX11_look_106 : decode cX11_look 106 = .ok (.iconst 1, 1) := by decide +kernel
theorem dX11_look_107 : decode cX11_look 107 = .ok (.if_icmp .ne 21, 3) := by decide +kernel
theorem dX11_look_110 : decode cX11_look 110 = .ok (.aload_n 0, 1) := by decide +kernel
theorem dX11_look_111 : decode cX11_look 111 = .ok (.aload_n 0, 1) := by decide +kernel
theorem dX11_look_112 : decode cX11_look 112 = .ok (.iconst 1, 1) := by decide +kernel
theorem dX11_look_113 : decode cX11_look 113 = .ok (.iload_n 1, 1) := by decide +kernel
theorem dX11_look_114 : decode cX11_look 114 = .ok (.iconst 0, 1) := by decide +kernel
theorem dX11_look_115 : decode cX11_look 115 = .ok (.invokevirtual 435, 3) := by decide +kernel
theorem dX11_look_118 : decode cX11_look 118 = .ok (.aload_n 0, 1) := by decide +kernel
theorem dX11_look_119 : decode cX11_look 119 = .ok (.iconst 1, 1) := by decide +kernel
theorem dX11_look_120 : decode cX11_look 120 = .ok (.iload_n 1, 1) := by decide +kernel
theorem dX11_look_121 : decode cX11_look 121 = .ok (.iconst 1, 1) := by decide +kernel
theorem dX11_look_122 : decode cX11_look 122 = .ok (.invokevirtual 435, 3) := by decide +kernel
theorem dX11_look_125 : decode cX11_look 125 = .ok (.invokevirtual 439, 3) := by decide +kernel
theorem dX11_look_128 : decode cX11_look 128 = .ok (.iinc 1 1, 3) := by decide +kernel
theorem dX11_look_131 : decode cX11_look 131 = .ok (.goto (-44), 3) := by decide +kernel
theorem dX11_look_134 : decode cX11_look 134 = .ok (.iconst 0, 1) := by decide +kernel
theorem dX11_look_135 : decode cX11_look 135 = .ok (.istore_n 1, 1) := by decide +kernel
theorem dX11_look_136 : decode cX11_look 136 = .ok (.iload_n 1, 1) := by decide +kernel
theorem dX11_look_137 : decode cX11_look 137 = .ok (.aload_n 0, 1) := by decide +kernel
theorem dX11_look_138 : decode cX11_look 138 = .ok (.iconst 3, 1) := by decide +kernel
theorem dX11_look_139 : decode cX11_look 139 = .ok (.invokevirtual 428, 3) := by decide +kernel
theorem dX11_look_142 : decode cX11_look 142 = .ok (.if_icmp .ge 73, 3) := by decide +kernel
theorem dX11_look_145 : decode cX11_look 145 = .ok (.aload_n 0, 1) := by decide +kernel
theorem dX11_look_146 : decode cX11_look 146 = .ok (.getfield 65, 3) := by decide +kernel
theorem dX11_look_149 : decode cX11_look 149 = .ok (.sipush 344, 3) := by decide +kernel
theorem dX11_look_152 : decode cX11_look 152 = .ok (.iaload, 1) := by decide +kernel
theorem dX11_look_153 : decode cX11_look 153 = .ok (.aload_n 0, 1) := by decide +kernel
theorem dX11_look_154 : decode cX11_look 154 = .ok (.getfield 40, 3) := by decide +kernel
theorem dX11_look_157 : decode cX11_look 157 = .ok (.bipush 116, 2) := by decide +kernel
theorem dX11_look_159 : decode cX11_look 159 = .ok (.aload_n 0, 1) := by decide +kernel
theorem dX11_look_160 : decode cX11_look 160 = .ok (.getfield 269, 3) := by decide +kernel
theorem dX11_look_163 : decode cX11_look 163 = .ok (.imul, 1) := by decide +kernel
theorem dX11_look_164 : decode cX11_look 164 = .ok (.bipush 88, 2) := by decide +kernel
theorem dX11_look_166 : decode cX11_look 166 = .ok (.iadd, 1) := by decide +kernel
theorem dX11_look_167 : decode cX11_look 167 = .ok (.iload_n 1, 1) := by decide +kernel
theorem dX11_look_168 : decode cX11_look 168 = .ok (.iadd, 1) := by decide +kernel
theorem dX11_look_169 : decode cX11_look 169 = .ok (.iaload, 1) := by decide +kernel
theorem dX11_look_170 : decode cX11_look 170 = .ok (.irem, 1) := by decide +kernel
theorem dX11_look_171 : decode cX11_look 171 = .ok (.aload_n 0, 1) := by decide +kernel
theorem dX11_look_172 : decode cX11_look 172 = .ok (.getfield 43, 3) := by decide +kernel
theorem dX11_look_175 : decode cX11_look 175 = .ok (.bipush 116, 2) := by decide +kernel
theorem dX11_look_177 : decode cX11_look 177 = .ok (.aload_n 0, 1) := by decide +kernel
theorem dX11_look_178 : decode cX11_look 178 = .ok (.getfield 269, 3) := by decide +kernel
theorem dX11_look_181 : decode cX11_look 181 = .ok (.imul, 1) := by decide +kernel
theorem dX11_look_182 : decode cX11_look 182 = .ok (.bipush 88, 2) := by decide +kernel
theorem dX11_look_184 : decode cX11_look 184 = .ok (.iadd, 1) := by decide +kernel
theorem dX11_look_185 : decode cX11_look 185 = .ok (.iload_n 1, 1) := by decide +kernel
theorem dX11_look_186 : decode cX11_look 186 = .ok (.iadd, 1) := by decide +kernel
theorem dX11_look_187 : decode cX11_look 187 = .ok (.iaload, 1) := by decide +kernel
theorem dX11_look_188 : decode cX11_look 188 = .ok (.if_icmp .ge 21, 3) := by decide +kernel
theorem dX11_look_191 : decode cX11_look 191 = .ok (.aload_n 0, 1) := by decide +kernel
theorem dX11_look_192 : decode cX11_look 192 = .ok (.aload_n 0, 1) := by decide +kernel
theorem dX11_look_193 : decode cX11_look 193 = .ok (.iconst 3, 1) := by decide +kernel
theorem dX11_look_194 : decode cX11_look 194 = .ok (.iload_n 1, 1) := by decide +kernel
theorem dX11_look_195 : decode cX11_look 195 = .ok (.iconst 0, 1) := by decide +kernel
theorem dX11_look_196 : decode cX11_look 196 = .ok (.invokevirtual 435, 3) := by decide +kernel
theorem dX11_look_199 : decode cX11_look 199 = .ok (.aload_n 0, 1) := by decide +kernel
theorem dX11_look_200 : decode cX11_look 200 = .ok (.iconst 3, 1) := by decide +kernel
theorem dX11_look_201 : decode cX11_look 201 = .ok (.iload_n 1, 1) := by decide +kernel
theorem dX11_look_202 : decode cX11_look 202 = .ok (.iconst 1, 1) := by decide +kernel
theorem dX11_look_203 : decode cX11_look 203 = .ok (.invokevirtual 435, 3) := by decide +kernel
theorem dX11_look_206 : decode cX11_look 206 = .ok (.invokevirtual 439, 3) := by decide +kernel
theorem dX11_look_209 : decode cX11_look 209 = .ok (.iinc 1 1, 3) := by decide +kernel
theorem dX11_look_212 : decode cX11_look 212 = .ok (.goto (-76), 3) := by decide +kernel
theorem dX11_look_215 : decode cX11_look 215 = .ok (.aload_n 0, 1) := by decide +kernel
theorem dX11_look_216 : decode cX11_look 216 = .ok (.getfield 77, 3) := by decide +kernel
theorem dX11_look_219 : decode cX11_look 219 = .ok (.aload_n 0, 1) := by decide +kernel
theorem dX11_look_220 : decode cX11_look 220 = .ok (.iconst 0, 1) := by decide +kernel
theorem dX11_look_221 : decode cX11_look 221 = .ok (.invokevirtual 425, 3) := by decide +kernel
theorem dX11_look_224 : decode cX11_look 224 = .ok (.iconst 1, 1) := by decide +kernel
theorem dX11_look_225 : decode cX11_look 225 = .ok (.bastore, 1) := by decide +kernel
theorem dX11_look_226 : decode cX11_look 226 = .ok (.aload_n 0, 1) := by decide +kernel
theorem dX11_look_227 : decode cX11_look 227 = .ok (.getfield 80, 3) := by decide +kernel
theorem dX11_look_230 : decode cX11_look 230 = .ok (.aload_n 0, 1) := by decide +kernel
theorem dX11_look_231 : decode cX11_look 231 = .ok (.iconst 1, 1) := by decide +kernel
theorem dX11_look_232 : decode cX11_look 232 = .ok (.invokevirtual 425, 3) := by decide +kernel
theorem dX11_look_235 : decode cX11_look 235 = .ok (.iconst 1, 1) := by decide +kernel
theorem dX11_look_236 : decode cX11_look 236 = .ok (.bastore, 1) := by decide +kernel
theorem dX11_look_237 : decode cX11_look 237 = .ok (.iconst 1, 1) := by decide +kernel
theorem dX11_look_238 : decode cX11_look 238 = .ok (.istore_n 1, 1) := by decide +kernel
theorem dX11_look_239 : decode cX11_look 239 = .ok (.iload_n 1, 1) := by decide +kernel
theorem dX11_look_240 : decode cX11_look 240 = .ok (.ifCond .eq 159, 3) := by decide +kernel
theorem dX11_look_243 : decode cX11_look 243 = .ok (.iconst 0, 1) := by decide +kernel
theorem dX11_look_244 : decode cX11_look 244 = .ok (.istore_n 1, 1) := by decide +kernel
theorem dX11_look_245 : decode cX11_look 245 = .ok (.iconst 0, 1) := by decide +kernel
theorem dX11_look_246 : decode cX11_look 246 = .ok (.istore_n 2, 1) := by decide +kernel
theorem dX11_look_247 : decode cX11_look 247 = .ok (.iload_n 2, 1) := by decide +kernel
theorem dX11_look_248 : decode cX11_look 248 = .ok (.aload_n 0, 1) := by decide +kernel
theorem dX11_look_249 : decode cX11_look 249 = .ok (.iconst 4, 1) := by decide +kernel
theorem dX11_look_250 : decode cX11_look 250 = .ok (.invokevirtual 428, 3) := by decide +kernel
theorem dX11_look_253 : decode cX11_look 253 = .ok (.if_icmp .ge 143, 3) := by decide +kernel
theorem dX11_look_256 : decode cX11_look 256 = .ok (.aload_n 0, 1) := by decide +kernel
theorem dX11_look_257 : decode cX11_look 257 = .ok (.aload_n 0, 1) := by decide +kernel
theorem dX11_look_258 : decode cX11_look 258 = .ok (.iconst 4, 1) := by decide +kernel
theorem dX11_look_259 : decode cX11_look 259 = .ok (.iload_n 2, 1) := by decide +kernel
theorem dX11_look_260 : decode cX11_look 260 = .ok (.iconst 0, 1) := by decide +kernel
theorem dX11_look_261 : decode cX11_look 261 = .ok (.invokevirtual 435, 3) := by decide +kernel
theorem dX11_look_264 : decode cX11_look 264 = .ok (.invokevirtual 425, 3) := by decide +kernel
theorem dX11_look_267 : decode cX11_look 267 = .ok (.istore_n 3, 1) := by decide +kernel
theorem dX11_look_268 : decode cX11_look 268 = .ok (.aload_n 0, 1) := by decide +kernel
theorem dX11_look_269 : decode cX11_look 269 = .ok (.aload_n 0, 1) := by decide +kernel
theorem dX11_look_270 : decode cX11_look 270 = .ok (.iconst 4, 1) := by decide +kernel
theorem dX11_look_271 : decode cX11_look 271 = .ok (.iload_n 2, 1) := by decide +kernel
theorem dX11_look_272 : decode cX11_look 272 = .ok (.iconst 1, 1) := by decide +kernel
theorem dX11_look_273 : decode cX11_look 273 = .ok (.invokevirtual 435, 3) := by decide +kernel
theorem dX11_look_276 : decode cX11_look 276 = .ok (.invokevirtual 425, 3) := by decide +kernel
theorem dX11_look_279 : decode cX11_look 279 = .ok (.istore 4, 2) := by decide +kernel
theorem dX11_look_281 : decode cX11_look 281 = .ok (.iload_n 1, 1) := by decide +kernel
theorem dX11_look_282 : decode cX11_look 282 = .ok (.ifCond .ne 41, 3) := by decide +kernel
theorem dX11_look_285 : decode cX11_look 285 = .ok (.aload_n 0, 1) := by decide +kernel
theorem dX11_look_286 : decode cX11_look 286 = .ok (.getfield 77, 3) := by decide +kernel
theorem dX11_look_289 : decode cX11_look 289 = .ok (.iload_n 3, 1) := by decide +kernel
theorem dX11_look_290 : decode cX11_look 290 = .ok (.baload, 1) := by decide +kernel
theorem dX11_look_291 : decode cX11_look 291 = .ok (.ifCond .eq 13, 3) := by decide +kernel
theorem dX11_look_294 : decode cX11_look 294 = .ok (.aload_n 0, 1) := by decide +kernel
theorem dX11_look_295 : decode cX11_look 295 = .ok (.getfield 77, 3) := by decide +kernel
theorem dX11_look_298 : decode cX11_look 298 = .ok (.iload 4, 2) := by decide +kernel
theorem dX11_look_300 : decode cX11_look 300 = .ok (.baload, 1) := by decide +kernel
theorem dX11_look_301 : decode cX11_look 301 = .ok (.ifCond .eq 22, 3) := by decide +kernel
theorem dX11_look_304 : decode cX11_look 304 = .ok (.aload_n 0, 1) := by decide +kernel
theorem dX11_look_305 : decode cX11_look 305 = .ok (.getfield 80, 3) := by decide +kernel
theorem dX11_look_308 : decode cX11_look 308 = .ok (.iload 4, 2) := by decide +kernel
theorem dX11_look_310 : decode cX11_look 310 = .ok (.baload, 1) := by decide +kernel
theorem dX11_look_311 : decode cX11_look 311 = .ok (.ifCond .eq 16, 3) := by decide +kernel
theorem dX11_look_314 : decode cX11_look 314 = .ok (.aload_n 0, 1) := by decide +kernel
theorem dX11_look_315 : decode cX11_look 315 = .ok (.getfield 80, 3) := by decide +kernel
theorem dX11_look_318 : decode cX11_look 318 = .ok (.iload_n 3, 1) := by decide +kernel
theorem dX11_look_319 : decode cX11_look 319 = .ok (.baload, 1) := by decide +kernel
theorem dX11_look_320 : decode cX11_look 320 = .ok (.ifCond .ne 7, 3) := by decide +kernel
theorem dX11_look_323 : decode cX11_look 323 = .ok (.iconst 1, 1) := by decide +kernel
theorem dX11_look_324 : decode cX11_look 324 = .ok (.goto 4, 3) := by decide +kernel
theorem dX11_look_327 : decode cX11_look 327 = .ok (.iconst 0, 1) := by decide +kernel
theorem dX11_look_328 : decode cX11_look 328 = .ok (.istore_n 1, 1) := by decide +kernel
theorem dX11_look_329 : decode cX11_look 329 = .ok (.aload_n 0, 1) := by decide +kernel
theorem dX11_look_330 : decode cX11_look 330 = .ok (.getfield 77, 3) := by decide +kernel
theorem dX11_look_333 : decode cX11_look 333 = .ok (.iload 4, 2) := by decide +kernel
theorem dX11_look_335 : decode cX11_look 335 = .ok (.aload_n 0, 1) := by decide +kernel
