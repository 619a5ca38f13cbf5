theorem dX10_load_9 : decode cX10_load 9 = .ok (.if_icmp .le 6, 3) := by decide +kernel
theorem dX10_load_12 : decode cX10_load 12 = .ok (.bipush (-2), 2) := by decide +kernel
theorem dX10_load_14 : decode cX10_load 14 = .ok (.ireturn, 1) := by decide +kernel
theorem dX10_load_15 : decode cX10_load 15 = .ok (.aload_n 0, 1) := by decide +kernel
theorem dX10_load_16 : decode cX10_load 16 = .ok (.getfield 26, 3) := by decide +kernel
theorem dX10_load_19 : decode cX10_load 19 = .ok (.getfield 62, 3) := by decide +kernel
theorem dX10_load_22 : decode cX10_load 22 = .ok (.aload_n 0, 1) := by decide +kernel
theorem dX10_load_23 : decode cX10_load 23 = .ok (.getfield 9, 3) := by decide +kernel
theorem dX10_load_26 : decode cX10_load 26 = .ok (.iload_n 1, 1) := by decide +kernel
theorem dX10_load_27 : decode cX10_load 27 = .ok (.invokevirtual 66, 3) := by decide +kernel
theorem dX10_load_30 : decode cX10_load 30 = .ok (.aload_n 0, 1) := by decide +kernel
theorem dX10_load_31 : decode cX10_load 31 = .ok (.iconst 0, 1) := by decide +kernel
theorem dX10_load_32 : decode cX10_load 32 = .ok (.putfield 13, 3) := by decide +kernel
theorem dX10_load_35 : decode cX10_load 35 = .ok (.aload_n 0, 1) := by decide +kernel
theorem dX10_load_36 : decode cX10_load 36 = .ok (.getfield 26, 3) := by decide +kernel
theorem dX10_load_39 : decode cX10_load 39 = .ok (.invokevirtual 72, 3) := by decide +kernel
theorem dX10_load_42 : decode cX10_load 42 = .ok (.istore_n 2, 1) := by decide +kernel
theorem dX10_load_43 : decode cX10_load 43 = .ok (.aload_n 0, 1) := by decide +kernel
theorem dX10_load_44 : decode cX10_load 44 = .ok (.aload_n 0, 1) := by decide +kernel
theorem dX10_load_45 : decode cX10_load 45 = .ok (.getfield 26, 3) := by decide +kernel
theorem dX10_load_48 : decode cX10_load 48 = .ok (.getfield 76, 3) := by decide +kernel
theorem dX10_load_51 : decode cX10_load 51 = .ok (.putfield 17, 3) := by decide +kernel
theorem dX10_load_54 : decode cX10_load 54 = .ok (.aload_n 0, 1) := by decide +kernel
theorem dX10_load_55 : decode cX10_load 55 = .ok (.aload_n 0, 1) := by decide +kernel
theorem dX10_load_56 : decode cX10_load 56 = .ok (.getfield 26, 3) := by decide +kernel
theorem dX10_load_59 : decode cX10_load 59 = .ok (.getfield 77, 3) := by decide +kernel
theorem dX10_load_62 : decode cX10_load 62 = .ok (.putfield 20, 3) := by decide +kernel
theorem dX10_load_65 : decode cX10_load 65 = .ok (.iload_n 2, 1) := by decide +kernel
theorem dX10_load_66 : decode cX10_load 66 = .ok (.ifCond .eq 10, 3) := by decide +kernel
theorem dX10_load_69 : decode cX10_load 69 = .ok (.aload_n 0, 1) := by decide +kernel
theorem dX10_load_70 : decode cX10_load 70 = .ok (.invokevirtual 78, 3) := by decide +kernel
theorem dX10_load_73 : decode cX10_load 73 = .ok (.goto 4, 3) := by decide +kernel
theorem dX10_load_76 : decode cX10_load 76 = .ok (.iconst (-1), 1) := by decide +kernel
theorem dX10_load_77 : decode cX10_load 77 = .ok (.ireturn, 1) := by decide +kernel
theorem dX10_adder_0 : decode cX10_adder 0 = .ok (.iload_n 1, 1) := by decide +kernel
theorem dX10_adder_1 : decode cX10_adder 1 = .ok (.iconst 1, 1) := by decide +kernel
theorem dX10_adder_2 : decode cX10_adder 2 = .ok (.if_icmp .lt 9, 3) := by decide +kernel
theorem dX10_adder_5 : decode cX10_adder 5 = .ok (.iload_n 1, 1) := by decide +kernel
theorem dX10_adder_6 : decode cX10_adder 6 = .ok (.bipush 7, 2) := by decide +kernel
theorem dX10_adder_8 : decode cX10_adder 8 = .ok (.if_icmp .le 5, 3) := by decide +kernel
theorem dX10_adder_11 : decode cX10_adder 11 = .ok (.iconst (-1), 1) := by decide +kernel
theorem dX10_adder_12 : decode cX10_adder 12 = .ok (.ireturn, 1) := by decide +kernel
theorem dX10_adder_13 : decode cX10_adder 13 = .ok (.aload_n 0, 1) := by decide +kernel
theorem dX10_adder_14 : decode cX10_adder 14 = .ok (.getfield 26, 3) := by decide +kernel
theorem dX10_adder_17 : decode cX10_adder 17 = .ok (.getfield 62, 3) := by decide +kernel
theorem dX10_adder_20 : decode cX10_adder 20 = .ok (.iload_n 1, 1) := by decide +kernel
theorem dX10_adder_21 : decode cX10_adder 21 = .ok (.invokestatic 82, 3) := by decide +kernel
theorem dX10_adder_24 : decode cX10_adder 24 = .ok (.aload_n 0, 1) := by decide +kernel
theorem dX10_adder_25 : decode cX10_adder 25 = .ok (.getfield 26, 3) := by decide +kernel
theorem dX10_adder_28 : decode cX10_adder 28 = .ok (.invokevirtual 72, 3) := by decide +kernel
theorem dX10_adder_31 : decode cX10_adder 31 = .ok (.ifCond .eq 10, 3) := by decide +kernel
theorem dX10_adder_34 : decode cX10_adder 34 = .ok (.aload_n 0, 1) := by decide +kernel
theorem dX10_adder_35 : decode cX10_adder 35 = .ok (.invokevirtual 78, 3) := by decide +kernel
theorem dX10_adder_38 : decode cX10_adder 38 = .ok (.goto 4, 3) := by decide +kernel
theorem dX10_adder_41 : decode cX10_adder 41 = .ok (.iconst (-1), 1) := by decide +kernel
theorem dX10_adder_42 : decode cX10_adder 42 = .ok (.ireturn, 1) := by decide +kernel
theorem dX10_takeNetlist_0 : decode cX10_takeNetlist 0 = .ok (.aload_n 0, 1) := by decide +kernel
theorem dX10_takeNetlist_1 : decode cX10_takeNetlist 1 = .ok (.getfield 33, 3) := by decide +kernel
theorem dX10_takeNetlist_4 : decode cX10_takeNetlist 4 = .ok (.getfield 88, 3) := by decide +kernel
theorem dX10_takeNetlist_7 : decode cX10_takeNetlist 7 = .ok (.astore_n 1, 1) := by decide +kernel
theorem dX10_takeNetlist_8 : decode cX10_takeNetlist 8 = .ok (.aload_n 0, 1) := by decide +kernel
theorem dX10_takeNetlist_9 : decode cX10_takeNetlist 9 = .ok (.getfield 33, 3) := by decide +kernel
theorem dX10_takeNetlist_12 : decode cX10_takeNetlist 12 = .ok (.aload_n 0, 1) := by decide +kernel
theorem dX10_takeNetlist_13 : decode cX10_takeNetlist 13 = .ok (.getfield 26, 3) := by decide +kernel
theorem dX10_takeNetlist_16 : decode cX10_takeNetlist 16 = .ok (.getfield 92, 3) := by decide +kernel
theorem dX10_takeNetlist_19 : decode cX10_takeNetlist 19 = .ok (.putfield 88, 3) := by decide +kernel
theorem dX10_takeNetlist_22 : decode cX10_takeNetlist 22 = .ok (.aload_n 0, 1) := by decide +kernel
theorem dX10_takeNetlist_23 : decode cX10_takeNetlist 23 = .ok (.getfield 26, 3) := by decide +kernel
theorem dX10_takeNetlist_26 : decode cX10_takeNetlist 26 = .ok (.aload_n 1, 1) := by decide +kernel
theorem dX10_takeNetlist_27 : decode cX10_takeNetlist 27 = .ok (.putfield 92, 3) := by decide +kernel
theorem dX10_takeNetlist_30 : decode cX10_takeNetlist 30 = .ok (.aload_n 0, 1) := by decide +kernel
theorem dX10_takeNetlist_31 : decode cX10_takeNetlist 31 = .ok (.getfield 33, 3) := by decide +kernel
theorem dX10_takeNetlist_34 : decode cX10_takeNetlist 34 = .ok (.getfield 95, 3) := by decide +kernel
theorem dX10_takeNetlist_37 : decode cX10_takeNetlist 37 = .ok (.invokevirtual 99, 3) := by decide +kernel
theorem dX10_takeNetlist_40 : decode cX10_takeNetlist 40 = .ok (.aload_n 0, 1) := by decide +kernel
theorem dX10_takeNetlist_41 : decode cX10_takeNetlist 41 = .ok (.getfield 40, 3) := by decide +kernel
theorem dX10_takeNetlist_44 : decode cX10_takeNetlist 44 = .ok (.invokevirtual 104, 3) := by decide +kernel
theorem dX10_takeNetlist_47 : decode cX10_takeNetlist 47 = .ok (.aload_n 0, 1) := by decide +kernel
theorem dX10_takeNetlist_48 : decode cX10_takeNetlist 48 = .ok (.getfield 47, 3) := by decide +kernel
theorem dX10_takeNetlist_51 : decode cX10_takeNetlist 51 = .ok (.invokevirtual 105, 3) := by decide +kernel
theorem dX10_takeNetlist_54 : decode cX10_takeNetlist 54 = .ok (.aload_n 0, 1) := by decide +kernel
theorem dX10_takeNetlist_55 : decode cX10_takeNetlist 55 = .ok (.getfield 54, 3) := by decide +kernel
theorem dX10_takeNetlist_58 : decode cX10_takeNetlist 58 = .ok (.invokevirtual 106, 3) := by decide +kernel
theorem dX10_takeNetlist_61 : decode cX10_takeNetlist 61 = .ok (.aload_n 0, 1) := by decide +kernel
theorem dX10_takeNetlist_62 : decode cX10_takeNetlist 62 = .ok (.getfield 33, 3) := by decide +kernel
theorem dX10_takeNetlist_65 : decode cX10_takeNetlist 65 = .ok (.getfield 88, 3) := by decide +kernel
theorem dX10_takeNetlist_68 : decode cX10_takeNetlist 68 = .ok (.getfield 107, 3) := by decide +kernel
theorem dX10_takeNetlist_71 : decode cX10_takeNetlist 71 = .ok (.iconst 0, 1) := by decide +kernel
theorem dX10_takeNetlist_72 : decode cX10_takeNetlist 72 = .ok (.iaload, 1) := by decide +kernel
theorem dX10_takeNetlist_73 : decode cX10_takeNetlist 73 = .ok (.ireturn, 1) := by decide +kernel
theorem dX10_wrong_0 : decode cX10_wrong 0 = .ok (.iload_n 1, 1) := by decide +kernel
theorem dX10_wrong_1 : decode cX10_wrong 1 = .ok (.lookupswitch 37 #[(0, 27), (1, 32)], 27) := by decide +kernel
theorem dX10_wrong_28 : decode cX10_wrong 28 = .ok (.aload_n 0, 1) := by decide +kernel
theorem dX10_wrong_29 : decode cX10_wrong 29 = .ok (.getfield 17, 3) := by decide +kernel
theorem dX10_wrong_32 : decode cX10_wrong 32 = .ok (.ireturn, 1) := by decide +kernel
theorem dX10_wrong_33 : decode cX10_wrong 33 = .ok (.aload_n 0, 1) := by decide +kernel
theorem dX10_wrong_34 : decode cX10_wrong 34 = .ok (.getfield 20, 3) := by decide +kernel
theorem dX10_wrong_37 : decode cX10_wrong 37 = .ok (.ireturn, 1) := by decide +kernel
theorem dX10_wrong_38 : decode cX10_wrong 38 = .ok (.iconst (-1), 1) := by decide +kernel
theorem dX10_wrong_39 : decode cX10_wrong 39 = .ok (.ireturn, 1) := by decide +kernel
theorem dX10_count_0 : decode cX10_count 0 = .ok (.iload_n 1, 1) := by decide +kernel
theorem dX10_count_1 : decode cX10_count 1 = .ok (.tableswitch 110 0 8 #[51, 51, 51, 51, 51, 64, 75, 83, 102], 51) := by decide +kernel
theorem dX10_count_52 : decode cX10_count 52 = .ok (.aload_n 0, 1) := by decide +kernel
theorem dX10_count_53 : decode cX10_count 53 = .ok (.getfield 33, 3) := by decide +kernel
theorem dX10_count_56 : decode cX10_count 56 = .ok (.getfield 88, 3) := by decide +kernel
theorem dX10_count_59 : decode cX10_count 59 = .ok (.getfield 107, 3) := by decide +kernel
theorem dX10_count_62 : decode cX10_count 62 = .ok (.iload_n 1, 1) := by decide +kernel
theorem dX10_count_63 : decode cX10_count 63 = .ok (.iaload, 1) := by decide +kernel
theorem dX10_count_64 : decode cX10_count 64 = .ok (.ireturn, 1) := by decide +kernel
theorem dX10_count_65 : decode cX10_count 65 = .ok (.aload_n 0, 1) := by decide +kernel
theorem dX10_count_66 : decode cX10_count 66 = .ok (.getfield 33, 3) := by decide +kernel
theorem dX10_count_69 : decode cX10_count 69 = .ok (.getfield 88, 3) := by decide +kernel
theorem dX10_count_72 : decode cX10_count 72 = .ok (.getfield 113, 3) := by decide +kernel
theorem dX10_count_75 : decode cX10_count 75 = .ok (.ireturn, 1) := by decide +kernel
theorem dX10_count_76 : decode cX10_count 76 = .ok (.aload_n 0, 1) := by decide +kernel
theorem dX10_count_77 : decode cX10_count 77 = .ok (.getfield 40, 3) := by decide +kernel
theorem dX10_count_80 : decode cX10_count 80 = .ok (.getfield 116, 3) := by decide +kernel
theorem dX10_count_83 : decode cX10_count 83 = .ok (.ireturn, 1) := by decide +kernel
theorem dX10_count_84 : decode cX10_count 84 = .ok (.aload_n 0, 1) := by decide +kernel
theorem dX10_count_85 : decode cX10_count 85 = .ok (.getfield 33, 3) := by decide +kernel
theorem dX10_count_88 : decode cX10_count 88 = .ok (.aload_n 0, 1) := by decide +kernel
theorem dX10_count_89 : decode cX10_count 89 = .ok (.getfield 40, 3) := by decide +kernel
theorem dX10_count_92 : decode cX10_count 92 = .ok (.invokevirtual 119, 3) := by decide +kernel
theorem dX10_count_95 : decode cX10_count 95 = .ok (.aload_n 0, 1) := by decide +kernel
theorem dX10_count_96 : decode cX10_count 96 = .ok (.getfield 33, 3) := by decide +kernel
theorem dX10_count_99 : decode cX10_count 99 = .ok (.invokevirtual 123, 3) := by decide +kernel
theorem dX10_count_102 : decode cX10_count 102 = .ok (.ireturn, 1) := by decide +kernel
theorem dX10_count_103 : decode cX10_count 103 = .ok (.aload_n 0, 1) := by decide +kernel
theorem dX10_count_104 : decode cX10_count 104 = .ok (.getfield 47, 3) := by decide +kernel
theorem dX10_count_107 : decode cX10_count 107 = .ok (.getfield 126, 3) := by decide +kernel
theorem dX10_count_110 : decode cX10_count 110 = .ok (.ireturn, 1) := by decide +kernel
theorem dX10_count_111 : decode cX10_count 111 = .ok (.iconst (-1), 1) := by decide +kernel
theorem dX10_count_112 : decode cX10_count 112 = .ok (.ireturn, 1) := by decide +kernel
theorem dX10_letter_0 : decode cX10_letter 0 = .ok (.aload_n 0, 1) := by decide +kernel
theorem dX10_letter_1 : decode cX10_letter 1 = .ok (.getfield 33, 3) := by decide +kernel
theorem dX10_letter_4 : decode cX10_letter 4 = .ok (.getfield 88, 3) := by decide +kernel
theorem dX10_letter_7 : decode cX10_letter 7 = .ok (.iload_n 1, 1) := by decide +kernel
theorem dX10_letter_8 : decode cX10_letter 8 = .ok (.iload_n 2, 1) := by decide +kernel
theorem dX10_letter_9 : decode cX10_letter 9 = .ok (.invokevirtual 129, 3) := by decide +kernel
theorem dX10_letter_12 : decode cX10_letter 12 = .ok (.ifCond .ne 5, 3) := by decide +kernel
theorem dX10_letter_15 : decode cX10_letter 15 = .ok (.iconst (-1), 1) := by decide +kernel
theorem dX10_letter_16 : decode cX10_letter 16 = .ok (.ireturn, 1) := by decide +kernel
theorem dX10_letter_17 : decode cX10_letter 17 = .ok (.aload_n 0, 1) := by decide +kernel
theorem dX10_letter_18 : decode cX10_letter 18 = .ok (.getfield 33, 3) := by decide +kernel
theorem dX10_letter_21 : decode cX10_letter 21 = .ok (.getfield 88, 3) := by decide +kernel
theorem dX10_letter_24 : decode cX10_letter 24 = .ok (.getfield 133, 3) := by decide +kernel
theorem dX10_letter_27 : decode cX10_letter 27 = .ok (.iload_n 1, 1) := by decide +kernel
theorem dX10_letter_28 : decode cX10_letter 28 = .ok (.aaload, 1) := by decide +kernel
theorem dX10_letter_29 : decode cX10_letter 29 = .ok (.iload_n 2, 1) := by decide +kernel
theorem dX10_letter_30 : decode cX10_letter 30 = .ok (.laload, 1) := by decide +kernel
theorem dX10_letter_31 : decode cX10_letter 31 = .ok (.iload_n 3, 1) := by decide +kernel
theorem dX10_letter_32 : decode cX10_letter 32 = .ok (.invokestatic 137, 3) := by decide +kernel
theorem dX10_letter_35 : decode cX10_letter 35 = .ok (.ireturn, 1) := by decide +kernel
theorem dX10_letterOf_0 : decode cX10_letterOf 0 = .ok (.iconst 0, 1) := by decide +kernel
theorem dX10_letterOf_1 : decode cX10_letterOf 1 = .ok (.istore_n 3, 1) := by decide +kernel
theorem dX10_letterOf_2 : decode cX10_letterOf 2 = .ok (.iconst 0, 1) := by decide +kernel
theorem dX10_letterOf_3 : decode cX10_letterOf 3 = .ok (.istore 4, 2) := by decide +kernel
theorem dX10_letterOf_5 : decode cX10_letterOf 5 = .ok (.iload 4, 2) := by decide +kernel
theorem dX10_letterOf_7 : decode cX10_letterOf 7 = .ok (.bipush 64, 2) := by decide +kernel
theorem dX10_letterOf_9 : decode cX10_letterOf 9 = .ok (.if_icmp .ge 21, 3) := by decide +kernel
theorem dX10_letterOf_12 : decode cX10_letterOf 12 = .ok (.lload_n 0, 1) := by decide +kernel
theorem dX10_letterOf_13 : decode cX10_letterOf 13 = .ok (.iload 4, 2) := by decide +kernel
theorem dX10_letterOf_15 : decode cX10_letterOf 15 = .ok (.lushr, 1) := by decide +kernel
theorem dX10_letterOf_16 : decode cX10_letterOf 16 = .ok (.lconst 0, 1) := by decide +kernel
theorem dX10_letterOf_17 : decode cX10_letterOf 17 = .ok (.lcmp, 1) := by decide +kernel
theorem dX10_letterOf_18 : decode cX10_letterOf 18 = .ok (.ifCond .eq 6, 3) := by decide +kernel
theorem dX10_letterOf_21 : decode cX10_letterOf 21 = .ok (.iinc 3 1, 3) := by decide +kernel
theorem dX10_letterOf_24 : decode cX10_letterOf 24 = .ok (.iinc 4 8, 3) := by decide +kernel
theorem dX10_letterOf_27 : decode cX10_letterOf 27 = .ok (.goto (-22), 3) := by decide +kernel
theorem dX10_letterOf_30 : decode cX10_letterOf 30 = .ok (.iload_n 2, 1) := by decide +kernel
theorem dX10_letterOf_31 : decode cX10_letterOf 31 = .ok (.ifCond .lt 8, 3) := by decide +kernel
theorem dX10_letterOf_34 : decode cX10_letterOf 34 = .ok (.iload_n 2, 1) := by decide +kernel
theorem dX10_letterOf_35 : decode cX10_letterOf 35 = .ok (.iload_n 3, 1) := by decide +kernel
theorem dX10_letterOf_36 : decode cX10_letterOf 36 = .ok (.if_icmp .lt 5, 3) := by decide +kernel
theorem dX10_letterOf_39 : decode cX10_letterOf 39 = .ok (.iconst (-1), 1) := by decide +kernel
theorem dX10_letterOf_40 : decode cX10_letterOf 40 = .ok (.ireturn, 1) := by decide +kernel
theorem dX10_letterOf_41 : decode cX10_letterOf 41 = .ok (.lload_n 0, 1) := by decide +kernel
theorem dX10_letterOf_42 : decode cX10_letterOf 42 = .ok (.bipush 8, 2) := by decide +kernel
theorem dX10_letterOf_44 : decode cX10_letterOf 44 = .ok (.iload_n 3, 1) := by decide +kernel
theorem dX10_letterOf_45 : decode cX10_letterOf 45 = .ok (.iconst 1, 1) := by decide +kernel
theorem dX10_letterOf_46 : decode cX10_letterOf 46 = .ok (.isub, 1) := by decide +kernel
theorem dX10_letterOf_47 : decode cX10_letterOf 47 = .ok (.iload_n 2, 1) := by decide +kernel
theorem dX10_letterOf_48 : decode cX10_letterOf 48 = .ok (.isub, 1) := by decide +kernel
theorem dX10_letterOf_49 : decode cX10_letterOf 49 = .ok (.imul, 1) := by decide +kernel
theorem dX10_letterOf_50 : decode cX10_letterOf 50 = .ok (.lushr, 1) := by decide +kernel
theorem dX10_letterOf_51 : decode cX10_letterOf 51 = .ok (.l2i, 1) := by decide +kernel
theorem dX10_letterOf_52 : decode cX10_letterOf 52 = .ok (.sipush 255, 3) := by decide +kernel
theorem dX10_letterOf_55 : decode cX10_letterOf 55 = .ok (.iand, 1) := by decide +kernel
theorem dX10_letterOf_56 : decode cX10_letterOf 56 = .ok (.ireturn, 1) := by decide +kernel
theorem dX10_key_0 : decode cX10_key 0 = .ok (.aload_n 0, 1) := by decide +kernel
theorem dX10_key_1 : decode cX10_key 1 = .ok (.getfield 33, 3) := by decide +kernel
theorem dX10_key_4 : decode cX10_key 4 = .ok (.getfield 88, 3) := by decide +kernel
theorem dX10_key_7 : decode cX10_key 7 = .ok (.iconst 1, 1) := by decide +kernel
theorem dX10_key_8 : decode cX10_key 8 = .ok (.iload_n 1, 1) := by decide +kernel
theorem dX10_key_9 : decode cX10_key 9 = .ok (.invokevirtual 129, 3) := by decide +kernel
theorem dX10_key_12 : decode cX10_key 12 = .ok (.ifCond .ne 5, 3) := by decide +kernel
theorem dX10_key_15 : decode cX10_key 15 = .ok (.iconst 0, 1) := by decide +kernel
theorem dX10_key_16 : decode cX10_key 16 = .ok (.ireturn, 1) := by decide +kernel
theorem dX10_key_17 : decode cX10_key 17 = .ok (.iload_n 2, 1) := by decide +kernel
theorem dX10_key_18 : decode cX10_key 18 = .ok (.ifCond .eq 21, 3) := by decide +kernel
theorem dX10_key_21 : decode cX10_key 21 = .ok (.aload_n 0, 1) := by decide +kernel
theorem dX10_key_22 : decode cX10_key 22 = .ok (.getfield 40, 3) := by decide +kernel
theorem dX10_key_25 : decode cX10_key 25 = .ok (.dup, 1) := by decide +kernel
theorem dX10_key_26 : decode cX10_key 26 = .ok (.getfield 141, 3) := by decide +kernel
theorem dX10_key_29 : decode cX10_key 29 = .ok (.iconst 1, 1) := by decide +kernel
theorem dX10_key_30 : decode cX10_key 30 = .ok (.iload_n 1, 1) := by decide +kernel
theorem dX10_key_31 : decode cX10_key 31 = .ok (.ishl, 1) := by decide +kernel
theorem dX10_key_32 : decode cX10_key 32 = .ok (.ior, 1) := by decide +kernel
theorem dX10_key_33 : decode cX10_key 33 = .ok (.putfield 141, 3) := by decide +kernel
theorem dX10_key_36 : decode cX10_key 36 = .ok (.goto 20, 3) := by decide +kernel
theorem dX10_key_39 : decode cX10_key 39 = .ok (.aload_n 0, 1) := by decide +kernel
theorem dX10_key_40 : decode cX10_key 40 = .ok (.getfield 40, 3) := by decide +kernel
theorem dX10_key_43 : decode cX10_key 43 = .ok (.dup, 1) := by decide +kernel
theorem dX10_key_44 : decode cX10_key 44 = .ok (.getfield 141, 3) := by decide +kernel
theorem dX10_key_47 : decode cX10_key 47 = .ok (.iconst 1, 1) := by decide +kernel
theorem dX10_key_48 : decode cX10_key 48 = .ok (.iload_n 1, 1) := by decide +kernel
theorem dX10_key_49 : decode cX10_key 49 = .ok (.ishl, 1) := by decide +kernel
theorem dX10_key_50 : decode cX10_key 50 = .ok (.iconst (-1), 1) := by decide +kernel
theorem dX10_key_51 : decode cX10_key 51 = .ok (.ixor, 1) := by decide +kernel
theorem dX10_key_52 : decode cX10_key 52 = .ok (.iand, 1) := by decide +kernel
theorem dX10_key_53 : decode cX10_key 53 = .ok (.putfield 141, 3) := by decide +kernel
theorem dX10_key_56 : decode cX10_key 56 = .ok (.iconst 1, 1) := by decide +kernel
theorem dX10_key_57 : decode cX10_key 57 = .ok (.ireturn, 1) := by decide +kernel
theorem dX10_tick_0 : decode cX10_tick 0 = .ok (.iload_n 1, 1) := by decide +kernel
theorem dX10_tick_1 : decode cX10_tick 1 = .ok (.ifCond .lt 10, 3) := by decide +kernel
theorem dX10_tick_4 : decode cX10_tick 4 = .ok (.iload_n 1, 1) := by decide +kernel
theorem dX10_tick_5 : decode cX10_tick 5 = .ok (.sipush 500, 3) := by decide +kernel
theorem dX10_tick_8 : decode cX10_tick 8 = .ok (.if_icmp .le 5, 3) := by decide +kernel
theorem dX10_tick_11 : decode cX10_tick 11 = .ok (.iconst (-1), 1) := by decide +kernel
theorem dX10_tick_12 : decode cX10_tick 12 = .ok (.ireturn, 1) := by decide +kernel
theorem dX10_tick_13 : decode cX10_tick 13 = .ok (.iconst 0, 1) := by decide +kernel
theorem dX10_tick_14 : decode cX10_tick 14 = .ok (.istore_n 2, 1) := by decide +kernel
theorem dX10_tick_15 : decode cX10_tick 15 = .ok (.iload_n 2, 1) := by decide +kernel
theorem dX10_tick_16 : decode cX10_tick 16 = .ok (.iload_n 1, 1) := by decide +kernel
theorem dX10_tick_17 : decode cX10_tick 17 = .ok (.if_icmp .ge 14, 3) := by decide +kernel
theorem dX10_tick_20 : decode cX10_tick 20 = .ok (.aload_n 0, 1) := by decide +kernel
theorem dX10_tick_21 : decode cX10_tick 21 = .ok (.invokevirtual 144, 3) := by decide +kernel
theorem dX10_tick_24 : decode cX10_tick 24 = .ok (.pop, 1) := by decide +kernel
theorem dX10_tick_25 : decode cX10_tick 25 = .ok (.iinc 2 1, 3) := by decide +kernel
theorem dX10_tick_28 : decode cX10_tick 28 = .ok (.goto (-13), 3) := by decide +kernel
theorem dX10_tick_31 : decode cX10_tick 31 = .ok (.aload_n 0, 1) := by decide +kernel
theorem dX10_tick_32 : decode cX10_tick 32 = .ok (.getfield 40, 3) := by decide +kernel
theorem dX10_tick_35 : decode cX10_tick 35 = .ok (.getfield 116, 3) := by decide +kernel
theorem dX10_tick_38 : decode cX10_tick 38 = .ok (.ireturn, 1) := by decide +kernel
theorem dX10_runTick_0 : decode cX10_runTick 0 = .ok (.aload_n 0, 1) := by decide +kernel
theorem dX10_runTick_1 : decode cX10_runTick 1 = .ok (.getfield 47, 3) := by decide +kernel
theorem dX10_runTick_4 : decode cX10_runTick 4 = .ok (.aload_n 0, 1) := by decide +kernel
theorem dX10_runTick_5 : decode cX10_runTick 5 = .ok (.getfield 40, 3) := by decide +kernel
theorem dX10_runTick_8 : decode cX10_runTick 8 = .ok (.invokevirtual 148, 3) := by decide +kernel
theorem dX10_runTick_11 : decode cX10_runTick 11 = .ok (.astore_n 1, 1) := by decide +kernel
theorem dX10_runTick_12 : decode cX10_runTick 12 = .ok (.aload_n 0, 1) := by decide +kernel
theorem dX10_runTick_13 : decode cX10_runTick 13 = .ok (.getfield 33, 3) := by decide +kernel
theorem dX10_runTick_16 : decode cX10_runTick 16 = .ok (.aload_n 0, 1) := by decide +kernel
theorem dX10_runTick_17 : decode cX10_runTick 17 = .ok (.getfield 40, 3) := by decide +kernel
theorem dX10_runTick_20 : decode cX10_runTick 20 = .ok (.iconst (-1), 1) := by decide +kernel
theorem dX10_runTick_21 : decode cX10_runTick 21 = .ok (.lconst 0, 1) := by decide +kernel
theorem dX10_runTick_22 : decode cX10_runTick 22 = .ok (.invokevirtual 152, 3) := by decide +kernel
theorem dX10_runTick_25 : decode cX10_runTick 25 = .ok (.aload_n 1, 1) := by decide +kernel
theorem dX10_runTick_26 : decode cX10_runTick 26 = .ok (.areturn, 1) := by decide +kernel
theorem dX10_quiet_0 : decode cX10_quiet 0 = .ok (.iconst 0, 1) := by decide +kernel
theorem dX10_quiet_1 : decode cX10_quiet 1 = .ok (.istore_n 1, 1) := by decide +kernel
theorem dX10_quiet_2 : decode cX10_quiet 2 = .ok (.iload_n 1, 1) := by decide +kernel
theorem dX10_quiet_3 : decode cX10_quiet 3 = .ok (.sipush 2000, 3) := by decide +kernel
theorem dX10_quiet_6 : decode cX10_quiet 6 = .ok (.if_icmp .ge 25, 3) := by decide +kernel
theorem dX10_quiet_9 : decode cX10_quiet 9 = .ok (.aload_n 0, 1) := by decide +kernel
theorem dX10_quiet_10 : decode cX10_quiet 10 = .ok (.invokevirtual 144, 3) := by decide +kernel
theorem dX10_quiet_13 : decode cX10_quiet 13 = .ok (.aload_n 0, 1) := by decide +kernel
theorem dX10_quiet_14 : decode cX10_quiet 14 = .ok (.getfield 40, 3) := by decide +kernel
theorem dX10_quiet_17 : decode cX10_quiet 17 = .ok (.invokevirtual 156, 3) := by decide +kernel
theorem dX10_quiet_20 : decode cX10_quiet 20 = .ok (.ifCond .eq 5, 3) := by decide +kernel
theorem dX10_quiet_23 : decode cX10_quiet 23 = .ok (.iload_n 1, 1) := by decide +kernel
theorem dX10_quiet_24 : decode cX10_quiet 24 = .ok (.ireturn, 1) := by decide +kernel
theorem dX10_quiet_25 : decode cX10_quiet 25 = .ok (.iinc 1 1, 3) := by decide +kernel
theorem dX10_quiet_28 : decode cX10_quiet 28 = .ok (.goto (-26), 3) := by decide +kernel
theorem dX10_quiet_31 : decode cX10_quiet 31 = .ok (.iconst (-1), 1) := by decide +kernel
theorem dX10_quiet_32 : decode cX10_quiet 32 = .ok (.ireturn, 1) := by decide +kernel
theorem dX10_relay_0 : decode cX10_relay 0 = .ok (.aload_n 0, 1) := by decide +kernel
theorem dX10_relay_1 : decode cX10_relay 1 = .ok (.getfield 33, 3) := by decide +kernel
theorem dX10_relay_4 : decode cX10_relay 4 = .ok (.getfield 88, 3) := by decide +kernel
theorem dX10_relay_7 : decode cX10_relay 7 = .ok (.astore_n 3, 1) := by decide +kernel
theorem dX10_relay_8 : decode cX10_relay 8 = .ok (.aload_n 3, 1) := by decide +kernel
theorem dX10_relay_9 : decode cX10_relay 9 = .ok (.iconst 0, 1) := by decide +kernel
theorem dX10_relay_10 : decode cX10_relay 10 = .ok (.iload_n 1, 1) := by decide +kernel
theorem dX10_relay_11 : decode cX10_relay 11 = .ok (.invokevirtual 129, 3) := by decide +kernel
theorem dX10_relay_14 : decode cX10_relay 14 = .ok (.ifCond .ne 5, 3) := by decide +kernel
theorem dX10_relay_17 : decode cX10_relay 17 = .ok (.iconst (-1), 1) := by decide +kernel
theorem dX10_relay_18 : decode cX10_relay 18 = .ok (.ireturn, 1) := by decide +kernel
theorem dX10_relay_19 : decode cX10_relay 19 = .ok (.iload_n 2, 1) := by decide +kernel
theorem dX10_relay_20 : decode cX10_relay 20 = .ok (.tableswitch 127 0 6 #[44, 61, 71, 100, 107, 114, 121], 44) := by decide +kernel
theorem dX10_relay_64 : decode cX10_relay 64 = .ok (.aload_n 0, 1) := by decide +kernel
theorem dX10_relay_65 : decode cX10_relay 65 = .ok (.getfield 40, 3) := by decide +kernel
theorem dX10_relay_68 : decode cX10_relay 68 = .ok (.iload_n 1, 1) := by decide +kernel
theorem dX10_relay_69 : decode cX10_relay 69 = .ok (.invokevirtual 160, 3) := by decide +kernel
theorem dX10_relay_72 : decode cX10_relay 72 = .ok (.ifCond .eq 7, 3) := by decide +kernel
theorem dX10_relay_75 : decode cX10_relay 75 = .ok (.iconst 1, 1) := by decide +kernel
theorem dX10_relay_76 : decode cX10_relay 76 = .ok (.goto 4, 3) := by decide +kernel
theorem dX10_relay_79 : decode cX10_relay 79 = .ok (.iconst 0, 1) := by decide +kernel
theorem dX10_relay_80 : decode cX10_relay 80 = .ok (.ireturn, 1) := by decide +kernel
theorem dX10_relay_81 : decode cX10_relay 81 = .ok (.aload_n 0, 1) := by decide +kernel
theorem dX10_relay_82 : decode cX10_relay 82 = .ok (.getfield 40, 3) := by decide +kernel
theorem dX10_relay_85 : decode cX10_relay 85 = .ok (.getfield 164, 3) := by decide +kernel
theorem dX10_relay_88 : decode cX10_relay 88 = .ok (.iload_n 1, 1) := by decide +kernel
theorem dX10_relay_89 : decode cX10_relay 89 = .ok (.iaload, 1) := by decide +kernel
theorem dX10_relay_90 : decode cX10_relay 90 = .ok (.ireturn, 1) := by decide +kernel
theorem dX10_relay_91 : decode cX10_relay 91 = .ok (.aload_n 0, 1) := by decide +kernel
theorem dX10_relay_92 : decode cX10_relay 92 = .ok (.getfield 33, 3) := by decide +kernel
theorem dX10_relay_95 : decode cX10_relay 95 = .ok (.aload_n 0, 1) := by decide +kernel
theorem dX10_relay_96 : decode cX10_relay 96 = .ok (.getfield 40, 3) := by decide +kernel
theorem dX10_relay_99 : decode cX10_relay 99 = .ok (.invokevirtual 119, 3) := by decide +kernel
theorem dX10_relay_102 : decode cX10_relay 102 = .ok (.aload_n 0, 1) := by decide +kernel
theorem dX10_relay_103 : decode cX10_relay 103 = .ok (.getfield 33, 3) := by decide +kernel
theorem dX10_relay_106 : decode cX10_relay 106 = .ok (.iconst 0, 1) := by decide +kernel
theorem dX10_relay_107 : decode cX10_relay 107 = .ok (.iload_n 1, 1) := by decide +kernel
theorem dX10_relay_108 : decode cX10_relay 108 = .ok (.invokevirtual 167, 3) := by decide +kernel
theorem dX10_relay_111 : decode cX10_relay 111 = .ok (.ifCond .eq 7, 3) := by decide +kernel
theorem dX10_relay_114 : decode cX10_relay 114 = .ok (.iconst 1, 1) := by decide +kernel
theorem dX10_relay_115 : decode cX10_relay 115 = .ok (.goto 4, 3) := by decide +kernel
theorem dX10_relay_118 : decode cX10_relay 118 = .ok (.iconst 0, 1) := by decide +kernel
theorem dX10_relay_119 : decode cX10_relay 119 = .ok (.ireturn, 1) := by decide +kernel
theorem dX10_relay_120 : decode cX10_relay 120 = .ok (.aload_n 3, 1) := by decide +kernel
theorem dX10_relay_121 : decode cX10_relay 121 = .ok (.getfield 170, 3) := by decide +kernel
theorem dX10_relay_124 : decode cX10_relay 124 = .ok (.iload_n 1, 1) := by decide +kernel
theorem dX10_relay_125 : decode cX10_relay 125 = .ok (.iaload, 1) := by decide +kernel
theorem dX10_relay_126 : decode cX10_relay 126 = .ok (.ireturn, 1) := by decide +kernel
theorem dX10_relay_127 : decode cX10_relay 127 = .ok (.aload_n 3, 1) := by decide +kernel
theorem dX10_relay_128 : decode cX10_relay 128 = .ok (.getfield 173, 3) := by decide +kernel
theorem dX10_relay_131 : decode cX10_relay 131 = .ok (.iload_n 1, 1) := by decide +kernel
theorem dX10_relay_132 : decode cX10_relay 132 = .ok (.iaload, 1) := by decide +kernel
theorem dX10_relay_133 : decode cX10_relay 133 = .ok (.ireturn, 1) := by decide +kernel
theorem dX10_relay_134 : decode cX10_relay 134 = .ok (.aload_n 3, 1) := by decide +kernel
theorem dX10_relay_135 : decode cX10_relay 135 = .ok (.getfield 176, 3) := by decide +kernel
theorem dX10_relay_138 : decode cX10_relay 138 = .ok (.iload_n 1, 1) := by decide +kernel
theorem dX10_relay_139 : decode cX10_relay 139 = .ok (.iaload, 1) := by decide +kernel
theorem dX10_relay_140 : decode cX10_relay 140 = .ok (.ireturn, 1) := by decide +kernel
theorem dX10_relay_141 : decode cX10_relay 141 = .ok (.aload_n 3, 1) := by decide +kernel
theorem dX10_relay_142 : decode cX10_relay 142 = .ok (.iload_n 1, 1) := by decide +kernel
theorem dX10_relay_143 : decode cX10_relay 143 = .ok (.invokevirtual 179, 3) := by decide +kernel
theorem dX10_relay_146 : decode cX10_relay 146 = .ok (.ireturn, 1) := by decide +kernel
theorem dX10_relay_147 : decode cX10_relay 147 = .ok (.iconst (-1), 1) := by decide +kernel
theorem dX10_relay_148 : decode cX10_relay 148 = .ok (.ireturn, 1) := by decide +kernel
theorem dX10_contact_0 : decode cX10_contact 0 = .ok (.aload_n 0, 1) := by decide +kernel
theorem dX10_contact_1 : decode cX10_contact 1 = .ok (.getfield 33, 3) := by decide +kernel
theorem dX10_contact_4 : decode cX10_contact 4 = .ok (.getfield 88, 3) := by decide +kernel
theorem dX10_contact_7 : decode cX10_contact 7 = .ok (.iload_n 1, 1) := by decide +kernel
theorem dX10_contact_8 : decode cX10_contact 8 = .ok (.iload_n 2, 1) := by decide +kernel
theorem dX10_contact_9 : decode cX10_contact 9 = .ok (.invokevirtual 183, 3) := by decide +kernel
theorem dX10_contact_12 : decode cX10_contact 12 = .ok (.ifCond .eq 15, 3) := by decide +kernel
theorem dX10_contact_15 : decode cX10_contact 15 = .ok (.aload_n 0, 1) := by decide +kernel
theorem dX10_contact_16 : decode cX10_contact 16 = .ok (.getfield 40, 3) := by decide +kernel
theorem dX10_contact_19 : decode cX10_contact 19 = .ok (.getfield 186, 3) := by decide +kernel
theorem dX10_contact_22 : decode cX10_contact 22 = .ok (.iload_n 1, 1) := by decide +kernel
theorem dX10_contact_23 : decode cX10_contact 23 = .ok (.iaload, 1) := by decide +kernel
theorem dX10_contact_24 : decode cX10_contact 24 = .ok (.goto 4, 3) := by decide +kernel
theorem dX10_contact_27 : decode cX10_contact 27 = .ok (.iconst (-1), 1) := by decide +kernel
theorem dX10_contact_28 : decode cX10_contact 28 = .ok (.ireturn, 1) := by decide +kernel
theorem dX10_lamp_0 : decode cX10_lamp 0 = .ok (.aload_n 0, 1) := by decide +kernel
theorem dX10_lamp_1 : decode cX10_lamp 1 = .ok (.getfield 33, 3) := by decide +kernel
theorem dX10_lamp_4 : decode cX10_lamp 4 = .ok (.getfield 88, 3) := by decide +kernel
theorem dX10_lamp_7 : decode cX10_lamp 7 = .ok (.iconst 2, 1) := by decide +kernel
theorem dX10_lamp_8 : decode cX10_lamp 8 = .ok (.iload_n 1, 1) := by decide +kernel
theorem dX10_lamp_9 : decode cX10_lamp 9 = .ok (.invokevirtual 129, 3) := by decide +kernel
theorem dX10_lamp_12 : decode cX10_lamp 12 = .ok (.ifCond .ne 5, 3) := by decide +kernel
theorem dX10_lamp_15 : decode cX10_lamp 15 = .ok (.iconst (-1), 1) := by decide +kernel
theorem dX10_lamp_16 : decode cX10_lamp 16 = .ok (.ireturn, 1) := by decide +kernel
theorem dX10_lamp_17 : decode cX10_lamp 17 = .ok (.aload_n 0, 1) := by decide +kernel
theorem dX10_lamp_18 : decode cX10_lamp 18 = .ok (.getfield 33, 3) := by decide +kernel
theorem dX10_lamp_21 : decode cX10_lamp 21 = .ok (.aload_n 0, 1) := by decide +kernel
theorem dX10_lamp_22 : decode cX10_lamp 22 = .ok (.getfield 40, 3) := by decide +kernel
theorem dX10_lamp_25 : decode cX10_lamp 25 = .ok (.invokevirtual 119, 3) := by decide +kernel
theorem dX10_lamp_28 : decode cX10_lamp 28 = .ok (.aload_n 0, 1) := by decide +kernel
theorem dX10_lamp_29 : decode cX10_lamp 29 = .ok (.getfield 33, 3) := by decide +kernel
theorem dX10_lamp_32 : decode cX10_lamp 32 = .ok (.iconst 2, 1) := by decide +kernel
theorem dX10_lamp_33 : decode cX10_lamp 33 = .ok (.iload_n 1, 1) := by decide +kernel
theorem dX10_lamp_34 : decode cX10_lamp 34 = .ok (.invokevirtual 167, 3) := by decide +kernel
theorem dX10_lamp_37 : decode cX10_lamp 37 = .ok (.ifCond .eq 7, 3) := by decide +kernel
theorem dX10_lamp_40 : decode cX10_lamp 40 = .ok (.iconst 1, 1) := by decide +kernel
theorem dX10_lamp_41 : decode cX10_lamp 41 = .ok (.goto 4, 3) := by decide +kernel
theorem dX10_lamp_44 : decode cX10_lamp 44 = .ok (.iconst 0, 1) := by decide +kernel
theorem dX10_lamp_45 : decode cX10_lamp 45 = .ok (.ireturn, 1) := by decide +kernel
theorem dX10_net_0 : decode cX10_net 0 = .ok (.aload_n 0, 1) := by decide +kernel
theorem dX10_net_1 : decode cX10_net 1 = .ok (.getfield 33, 3) := by decide +kernel
theorem dX10_net_4 : decode cX10_net 4 = .ok (.getfield 88, 3) := by decide +kernel
theorem dX10_net_7 : decode cX10_net 7 = .ok (.iload_n 1, 1) := by decide +kernel
theorem dX10_net_8 : decode cX10_net 8 = .ok (.iload_n 2, 1) := by decide +kernel
theorem dX10_net_9 : decode cX10_net 9 = .ok (.iload_n 3, 1) := by decide +kernel
theorem dX10_net_10 : decode cX10_net 10 = .ok (.invokevirtual 189, 3) := by decide +kernel
theorem dX10_net_13 : decode cX10_net 13 = .ok (.istore 4, 2) := by decide +kernel
theorem dX10_net_15 : decode cX10_net 15 = .ok (.iload 4, 2) := by decide +kernel
theorem dX10_net_17 : decode cX10_net 17 = .ok (.iconst (-1), 1) := by decide +kernel
theorem dX10_net_18 : decode cX10_net 18 = .ok (.if_icmp .ne 5, 3) := by decide +kernel
theorem dX10_net_21 : decode cX10_net 21 = .ok (.iconst (-1), 1) := by decide +kernel
theorem dX10_net_22 : decode cX10_net 22 = .ok (.ireturn, 1) := by decide +kernel
theorem dX10_net_23 : decode cX10_net 23 = .ok (.aload_n 0, 1) := by decide +kernel
theorem dX10_net_24 : decode cX10_net 24 = .ok (.getfield 33, 3) := by decide +kernel
theorem dX10_net_27 : decode cX10_net 27 = .ok (.aload_n 0, 1) := by decide +kernel
theorem dX10_net_28 : decode cX10_net 28 = .ok (.getfield 40, 3) := by decide +kernel
theorem dX10_net_31 : decode cX10_net 31 = .ok (.invokevirtual 119, 3) := by decide +kernel
theorem dX10_net_34 : decode cX10_net 34 = .ok (.aload_n 0, 1) := by decide +kernel
theorem dX10_net_35 : decode cX10_net 35 = .ok (.getfield 33, 3) := by decide +kernel
theorem dX10_net_38 : decode cX10_net 38 = .ok (.iload 4, 2) := by decide +kernel
theorem dX10_net_40 : decode cX10_net 40 = .ok (.invokevirtual 193, 3) := by decide +kernel
theorem dX10_net_43 : decode cX10_net 43 = .ok (.ireturn, 1) := by decide +kernel
theorem dX10_stuck_0 : decode cX10_stuck 0 = .ok (.aload_n 0, 1) := by decide +kernel
theorem dX10_stuck_1 : decode cX10_stuck 1 = .ok (.getfield 33, 3) := by decide +kernel
theorem dX10_stuck_4 : decode cX10_stuck 4 = .ok (.getfield 88, 3) := by decide +kernel
theorem dX10_stuck_7 : decode cX10_stuck 7 = .ok (.iload_n 1, 1) := by decide +kernel
theorem dX10_stuck_8 : decode cX10_stuck 8 = .ok (.iload_n 2, 1) := by decide +kernel
theorem dX10_stuck_9 : decode cX10_stuck 9 = .ok (.invokevirtual 183, 3) := by decide +kernel
theorem dX10_stuck_12 : decode cX10_stuck 12 = .ok (.ifCond .eq 13, 3) := by decide +kernel
theorem dX10_stuck_15 : decode cX10_stuck 15 = .ok (.iload_n 3, 1) := by decide +kernel
theorem dX10_stuck_16 : decode cX10_stuck 16 = .ok (.iconst (-1), 1) := by decide +kernel
theorem dX10_stuck_17 : decode cX10_stuck 17 = .ok (.if_icmp .lt 8, 3) := by decide +kernel
theorem dX10_stuck_20 : decode cX10_stuck 20 = .ok (.iload_n 3, 1) := by decide +kernel
theorem dX10_stuck_21 : decode cX10_stuck 21 = .ok (.iconst 2, 1) := by decide +kernel
theorem dX10_stuck_22 : decode cX10_stuck 22 = .ok (.if_icmp .le 5, 3) := by decide +kernel
theorem dX10_stuck_25 : decode cX10_stuck 25 = .ok (.iconst 0, 1) := by decide +kernel
theorem dX10_stuck_26 : decode cX10_stuck 26 = .ok (.ireturn, 1) := by decide +kernel
theorem dX10_stuck_27 : decode cX10_stuck 27 = .ok (.aload_n 0, 1) := by decide +kernel
theorem dX10_stuck_28 : decode cX10_stuck 28 = .ok (.getfield 33, 3) := by decide +kernel
theorem dX10_stuck_31 : decode cX10_stuck 31 = .ok (.getfield 95, 3) := by decide +kernel
theorem dX10_stuck_34 : decode cX10_stuck 34 = .ok (.getfield 196, 3) := by decide +kernel
theorem dX10_stuck_37 : decode cX10_stuck 37 = .ok (.iload_n 1, 1) := by decide +kernel
theorem dX10_stuck_38 : decode cX10_stuck 38 = .ok (.iload_n 2, 1) := by decide +kernel
theorem dX10_stuck_39 : decode cX10_stuck 39 = .ok (.invokestatic 199, 3) := by decide +kernel
theorem dX10_stuck_42 : decode cX10_stuck 42 = .ok (.iload_n 3, 1) := by decide +kernel
theorem dX10_stuck_43 : decode cX10_stuck 43 = .ok (.iastore, 1) := by decide +kernel
theorem dX10_stuck_44 : decode cX10_stuck 44 = .ok (.iconst 1, 1) := by decide +kernel
theorem dX10_stuck_45 : decode cX10_stuck 45 = .ok (.ireturn, 1) := by decide +kernel
theorem dX10_dust_0 : decode cX10_dust 0 = .ok (.aload_n 0, 1) := by decide +kernel
theorem dX10_dust_1 : decode cX10_dust 1 = .ok (.getfield 33, 3) := by decide +kernel
theorem dX10_dust_4 : decode cX10_dust 4 = .ok (.getfield 88, 3) := by decide +kernel
theorem dX10_dust_7 : decode cX10_dust 7 = .ok (.iload_n 1, 1) := by decide +kernel
theorem dX10_dust_8 : decode cX10_dust 8 = .ok (.iload_n 2, 1) := by decide +kernel
theorem dX10_dust_9 : decode cX10_dust 9 = .ok (.invokevirtual 183, 3) := by decide +kernel
theorem dX10_dust_12 : decode cX10_dust 12 = .ok (.ifCond .ne 5, 3) := by decide +kernel
theorem dX10_dust_15 : decode cX10_dust 15 = .ok (.iconst 0, 1) := by decide +kernel
theorem dX10_dust_16 : decode cX10_dust 16 = .ok (.ireturn, 1) := by decide +kernel
theorem dX10_dust_17 : decode cX10_dust 17 = .ok (.aload_n 0, 1) := by decide +kernel
theorem dX10_dust_18 : decode cX10_dust 18 = .ok (.getfield 33, 3) := by decide +kernel
theorem dX10_dust_21 : decode cX10_dust 21 = .ok (.getfield 95, 3) := by decide +kernel
theorem dX10_dust_24 : decode cX10_dust 24 = .ok (.getfield 203, 3) := by decide +kernel
theorem dX10_dust_27 : decode cX10_dust 27 = .ok (.iload_n 1, 1) := by decide +kernel
theorem dX10_dust_28 : decode cX10_dust 28 = .ok (.iload_n 2, 1) := by decide +kernel
theorem dX10_dust_29 : decode cX10_dust 29 = .ok (.invokestatic 199, 3) := by decide +kernel
theorem dX10_dust_32 : decode cX10_dust 32 = .ok (.iload_n 3, 1) := by decide +kernel
theorem dX10_dust_33 : decode cX10_dust 33 = .ok (.bastore, 1) := by decide +kernel
theorem dX10_dust_34 : decode cX10_dust 34 = .ok (.iconst 1, 1) := by decide +kernel
theorem dX10_dust_35 : decode cX10_dust 35 = .ok (.ireturn, 1) := by decide +kernel
theorem dX10_contactNumber_0 : decode cX10_contactNumber 0 = .ok (.iload_n 0, 1) := by decide +kernel
theorem dX10_contactNumber_1 : decode cX10_contactNumber 1 = .ok (.bipush 6, 2) := by decide +kernel
theorem dX10_contactNumber_3 : decode cX10_contactNumber 3 = .ok (.imul, 1) := by decide +kernel
theorem dX10_contactNumber_4 : decode cX10_contactNumber 4 = .ok (.iload_n 1, 1) := by decide +kernel
theorem dX10_contactNumber_5 : decode cX10_contactNumber 5 = .ok (.iadd, 1) := by decide +kernel
theorem dX10_contactNumber_6 : decode cX10_contactNumber 6 = .ok (.iconst 1, 1) := by decide +kernel
theorem dX10_contactNumber_7 : decode cX10_contactNumber 7 = .ok (.isub, 1) := by decide +kernel
theorem dX10_contactNumber_8 : decode cX10_contactNumber 8 = .ok (.ireturn, 1) := by decide +kernel
theorem dX10_race_0 : decode cX10_race 0 = .ok (.iload_n 1, 1) := by decide +kernel
theorem dX10_race_1 : decode cX10_race 1 = .ok (.ifCond .lt 9, 3) := by decide +kernel
theorem dX10_race_4 : decode cX10_race 4 = .ok (.iload_n 1, 1) := by decide +kernel
theorem dX10_race_5 : decode cX10_race 5 = .ok (.bipush 16, 2) := by decide +kernel
theorem dX10_race_7 : decode cX10_race 7 = .ok (.if_icmp .le 6, 3) := by decide +kernel
theorem dX10_race_10 : decode cX10_race 10 = .ok (.bipush (-2), 2) := by decide +kernel
theorem dX10_race_12 : decode cX10_race 12 = .ok (.ireturn, 1) := by decide +kernel
theorem dX10_race_13 : decode cX10_race 13 = .ok (.aload_n 0, 1) := by decide +kernel
theorem dX10_race_14 : decode cX10_race 14 = .ok (.getfield 54, 3) := by decide +kernel
theorem dX10_race_17 : decode cX10_race 17 = .ok (.aload_n 0, 1) := by decide +kernel
theorem dX10_race_18 : decode cX10_race 18 = .ok (.getfield 40, 3) := by decide +kernel
theorem dX10_race_21 : decode cX10_race 21 = .ok (.invokevirtual 207, 3) := by decide +kernel
theorem dX10_race_24 : decode cX10_race 24 = .ok (.iconst 0, 1) := by decide +kernel
theorem dX10_race_25 : decode cX10_race 25 = .ok (.istore_n 2, 1) := by decide +kernel
theorem dX10_race_26 : decode cX10_race 26 = .ok (.iconst 1, 1) := by decide +kernel
theorem dX10_race_27 : decode cX10_race 27 = .ok (.istore_n 3, 1) := by decide +kernel
theorem dX10_race_28 : decode cX10_race 28 = .ok (.iload_n 3, 1) := by decide +kernel
theorem dX10_race_29 : decode cX10_race 29 = .ok (.iload_n 1, 1) := by decide +kernel
theorem dX10_race_30 : decode cX10_race 30 = .ok (.if_icmp .gt 83, 3) := by decide +kernel
theorem dX10_race_33 : decode cX10_race 33 = .ok (.aload_n 0, 1) := by decide +kernel
theorem dX10_race_34 : decode cX10_race 34 = .ok (.getfield 54, 3) := by decide +kernel
theorem dX10_race_37 : decode cX10_race 37 = .ok (.aload_n 0, 1) := by decide +kernel
theorem dX10_race_38 : decode cX10_race 38 = .ok (.getfield 33, 3) := by decide +kernel
theorem dX10_race_41 : decode cX10_race 41 = .ok (.invokevirtual 210, 3) := by decide +kernel
theorem dX10_race_44 : decode cX10_race 44 = .ok (.istore 4, 2) := by decide +kernel
theorem dX10_race_46 : decode cX10_race 46 = .ok (.iload_n 2, 1) := by decide +kernel
theorem dX10_race_47 : decode cX10_race 47 = .ok (.iload 4, 2) := by decide +kernel
theorem dX10_race_49 : decode cX10_race 49 = .ok (.iconst 4, 1) := by decide +kernel
theorem dX10_race_50 : decode cX10_race 50 = .ok (.if_icmp .le 7, 3) := by decide +kernel
theorem dX10_race_53 : decode cX10_race 53 = .ok (.iconst 1, 1) := by decide +kernel
theorem dX10_race_54 : decode cX10_race 54 = .ok (.goto 4, 3) := by decide +kernel
theorem dX10_race_57 : decode cX10_race 57 = .ok (.iconst 0, 1) := by decide +kernel
theorem dX10_race_58 : decode cX10_race 58 = .ok (.ior, 1) := by decide +kernel
theorem dX10_race_59 : decode cX10_race 59 = .ok (.istore_n 2, 1) := by decide +kernel
theorem dX10_race_60 : decode cX10_race 60 = .ok (.iload_n 1, 1) := by decide +kernel
theorem dX10_race_61 : decode cX10_race 61 = .ok (.iconst 4, 1) := by decide +kernel
theorem dX10_race_62 : decode cX10_race 62 = .ok (.iadd, 1) := by decide +kernel
theorem dX10_race_63 : decode cX10_race 63 = .ok (.iload_n 3, 1) := by decide +kernel
theorem dX10_race_64 : decode cX10_race 64 = .ok (.iconst 1, 1) := by decide +kernel
theorem dX10_race_65 : decode cX10_race 65 = .ok (.isub, 1) := by decide +kernel
theorem dX10_race_66 : decode cX10_race 66 = .ok (.isub, 1) := by decide +kernel
theorem dX10_race_67 : decode cX10_race 67 = .ok (.istore 5, 2) := by decide +kernel
theorem dX10_race_69 : decode cX10_race 69 = .ok (.iload 4, 2) := by decide +kernel
theorem dX10_race_71 : decode cX10_race 71 = .ok (.iconst 2, 1) := by decide +kernel
theorem dX10_race_72 : decode cX10_race 72 = .ok (.if_icmp .lt 35, 3) := by decide +kernel
theorem dX10_race_75 : decode cX10_race 75 = .ok (.iload 4, 2) := by decide +kernel
theorem dX10_race_77 : decode cX10_race 77 = .ok (.iconst 4, 1) := by decide +kernel
theorem dX10_race_78 : decode cX10_race 78 = .ok (.if_icmp .gt 29, 3) := by decide +kernel
theorem dX10_race_81 : decode cX10_race 81 = .ok (.aload_n 0, 1) := by decide +kernel
theorem dX10_race_82 : decode cX10_race 82 = .ok (.getfield 54, 3) := by decide +kernel
theorem dX10_race_85 : decode cX10_race 85 = .ok (.aload_n 0, 1) := by decide +kernel
theorem dX10_race_86 : decode cX10_race 86 = .ok (.getfield 33, 3) := by decide +kernel
theorem dX10_race_89 : decode cX10_race 89 = .ok (.iload 5, 2) := by decide +kernel
theorem dX10_race_91 : decode cX10_race 91 = .ok (.invokevirtual 214, 3) := by decide +kernel
theorem dX10_race_94 : decode cX10_race 94 = .ok (.ifCond .eq 13, 3) := by decide +kernel
theorem dX10_race_97 : decode cX10_race 97 = .ok (.aload_n 0, 1) := by decide +kernel
theorem dX10_race_98 : decode cX10_race 98 = .ok (.getfield 54, 3) := by decide +kernel
theorem dX10_race_101 : decode cX10_race 101 = .ok (.iload_n 3, 1) := by decide +kernel
theorem dX10_race_102 : decode cX10_race 102 = .ok (.invokevirtual 218, 3) := by decide +kernel
theorem dX10_race_105 : decode cX10_race 105 = .ok (.iconst 1, 1) := by decide +kernel
theorem dX10_race_106 : decode cX10_race 106 = .ok (.ireturn, 1) := by decide +kernel
theorem dX10_race_107 : decode cX10_race 107 = .ok (.iinc 3 1, 3) := by decide +kernel
theorem dX10_race_110 : decode cX10_race 110 = .ok (.goto (-82), 3) := by decide +kernel
theorem dX10_race_113 : decode cX10_race 113 = .ok (.iload_n 2, 1) := by decide +kernel
theorem dX10_race_114 : decode cX10_race 114 = .ok (.ifCond .eq 7, 3) := by decide +kernel
theorem dX10_race_117 : decode cX10_race 117 = .ok (.iconst (-1), 1) := by decide +kernel
theorem dX10_race_118 : decode cX10_race 118 = .ok (.goto 4, 3) := by decide +kernel
theorem dX10_race_121 : decode cX10_race 121 = .ok (.iconst 0, 1) := by decide +kernel
theorem dX10_race_122 : decode cX10_race 122 = .ok (.ireturn, 1) := by decide +kernel
theorem dX10_raced_0 : decode cX10_raced 0 = .ok (.aload_n 0, 1) := by decide +kernel
theorem dX10_raced_1 : decode cX10_raced 1 = .ok (.getfield 54, 3) := by decide +kernel
theorem dX10_raced_4 : decode cX10_raced 4 = .ok (.iload_n 1, 1) := by decide +kernel
theorem dX10_raced_5 : decode cX10_raced 5 = .ok (.invokevirtual 220, 3) := by decide +kernel
theorem dX10_raced_8 : decode cX10_raced 8 = .ok (.ireturn, 1) := by decide +kernel
theorem dX10_back_0 : decode cX10_back 0 = .ok (.aload_n 0, 1) := by decide +kernel
theorem dX10_back_1 : decode cX10_back 1 = .ok (.getfield 47, 3) := by decide +kernel
theorem dX10_back_4 : decode cX10_back 4 = .ok (.iload_n 1, 1) := by decide +kernel
theorem dX10_back_5 : decode cX10_back 5 = .ok (.aload_n 0, 1) := by decide +kernel
theorem dX10_back_6 : decode cX10_back 6 = .ok (.getfield 40, 3) := by decide +kernel
theorem dX10_back_9 : decode cX10_back 9 = .ok (.invokevirtual 223, 3) := by decide +kernel
theorem dX10_back_12 : decode cX10_back 12 = .ok (.ifCond .eq 13, 3) := by decide +kernel
theorem dX10_back_15 : decode cX10_back 15 = .ok (.aload_n 0, 1) := by decide +kernel
theorem dX10_back_16 : decode cX10_back 16 = .ok (.getfield 40, 3) := by decide +kernel
theorem dX10_back_19 : decode cX10_back 19 = .ok (.getfield 116, 3) := by decide +kernel
theorem dX10_back_22 : decode cX10_back 22 = .ok (.goto 4, 3) := by decide +kernel
theorem dX10_back_25 : decode cX10_back 25 = .ok (.iconst (-1), 1) := by decide +kernel
theorem dX10_back_26 : decode cX10_back 26 = .ok (.ireturn, 1) := by decide +kernel
theorem dX11_init_0 : decode cX11_init 0 = .ok (.aload_n 0, 1) := by decide +kernel
theorem dX11_init_1 : decode cX11_init 1 = .ok (.invokespecial 1, 3) := by decide +kernel
theorem dX11_init_4 : decode cX11_init 4 = .ok (.aload_n 0, 1) := by decide +kernel
theorem dX11_init_5 : decode cX11_init 5 = .ok (.sipush 4000, 3) := by decide +kernel
theorem dX11_init_8 : decode cX11_init 8 = .ok (.newarray .byte, 2) := by decide +kernel
theorem dX11_init_10 : decode cX11_init 10 = .ok (.putfield 7, 3) := by decide +kernel
theorem dX11_init_13 : decode cX11_init 13 = .ok (.aload_n 0, 1) := by decide +kernel
theorem dX11_init_14 : decode cX11_init 14 = .ok (.sipush 4000, 3) := by decide +kernel
theorem dX11_init_17 : decode cX11_init 17 = .ok (.newarray .byte, 2) := by decide +kernel
theorem dX11_init_19 : decode cX11_init 19 = .ok (.putfield 13, 3) := by decide +kernel
theorem dX11_init_22 : decode cX11_init 22 = .ok (.aload_n 0, 1) := by decide +kernel
theorem dX11_init_23 : decode cX11_init 23 = .ok (.sipush 4001, 3) := by decide +kernel
theorem dX11_init_26 : decode cX11_init 26 = .ok (.newarray .int, 2) := by decide +kernel
theorem dX11_init_28 : decode cX11_init 28 = .ok (.putfield 16, 3) := by decide +kernel
theorem dX11_init_31 : decode cX11_init 31 = .ok (.aload_n 0, 1) := by decide +kernel
theorem dX11_init_32 : decode cX11_init 32 = .ok (.sipush 4001, 3) := by decide +kernel
theorem dX11_init_35 : decode cX11_init 35 = .ok (.newarray .int, 2) := by decide +kernel
theorem dX11_init_37 : decode cX11_init 37 = .ok (.putfield 20, 3) := by decide +kernel
theorem dX11_init_40 : decode cX11_init 40 = .ok (.aload_n 0, 1) := by decide +kernel
theorem dX11_init_41 : decode cX11_init 41 = .ok (.sipush 4001, 3) := by decide +kernel
theorem dX11_init_44 : decode cX11_init 44 = .ok (.newarray .int, 2) := by decide +kernel
theorem dX11_init_46 : decode cX11_init 46 = .ok (.putfield 23, 3) := by decide +kernel
theorem dX11_init_49 : decode cX11_init 49 = .ok (.aload_n 0, 1) := by decide +kernel
theorem dX11_init_50 : decode cX11_init 50 = .ok (.sipush 4001, 3) := by decide +kernel
theorem dX11_init_53 : decode cX11_init 53 = .ok (.newarray .long, 2) := by decide +kernel
theorem dX11_init_55 : decode cX11_init 55 = .ok (.putfield 26, 3) := by decide +kernel
theorem dX11_init_58 : decode cX11_init 58 = .ok (.aload_n 0, 1) := by decide +kernel
theorem dX11_init_59 : decode cX11_init 59 = .ok (.iconst (-1), 1) := by decide +kernel
theorem dX11_init_60 : decode cX11_init 60 = .ok (.putfield 30, 3) := by decide +kernel
theorem dX11_init_63 : decode cX11_init 63 = .ok (.aload_n 0, 1) := by decide +kernel
theorem dX11_init_64 : decode cX11_init 64 = .ok (.bipush 10, 2) := by decide +kernel
theorem dX11_init_66 : decode cX11_init 66 = .ok (.newarray .int, 2) := by decide +kernel
theorem dX11_init_68 : decode cX11_init 68 = .ok (.putfield 34, 3) := by decide +kernel
theorem dX11_init_71 : decode cX11_init 71 = .ok (.aload_n 0, 1) := by decide +kernel
theorem dX11_init_72 : decode cX11_init 72 = .ok (.sipush 232, 3) := by decide +kernel
theorem dX11_init_75 : decode cX11_init 75 = .ok (.newarray .int, 2) := by decide +kernel
theorem dX11_init_77 : decode cX11_init 77 = .ok (.putfield 37, 3) := by decide +kernel
theorem dX11_init_80 : decode cX11_init 80 = .ok (.aload_n 0, 1) := by decide +kernel
theorem dX11_init_81 : decode cX11_init 81 = .ok (.sipush 232, 3) := by decide +kernel
theorem dX11_init_84 : decode cX11_init 84 = .ok (.newarray .int, 2) := by decide +kernel
theorem dX11_init_86 : decode cX11_init 86 = .ok (.putfield 40, 3) := by decide +kernel
theorem dX11_init_89 : decode cX11_init 89 = .ok (.aload_n 0, 1) := by decide +kernel
theorem dX11_init_90 : decode cX11_init 90 = .ok (.sipush 232, 3) := by decide +kernel
theorem dX11_init_93 : decode cX11_init 93 = .ok (.newarray .int, 2) := by decide +kernel
theorem dX11_init_95 : decode cX11_init 95 = .ok (.putfield 43, 3) := by decide +kernel
theorem dX11_init_98 : decode cX11_init 98 = .ok (.aload_n 0, 1) := by decide +kernel
theorem dX11_init_99 : decode cX11_init 99 = .ok (.sipush 232, 3) := by decide +kernel
theorem dX11_init_102 : decode cX11_init 102 = .ok (.newarray .int, 2) := by decide +kernel
theorem dX11_init_104 : decode cX11_init 104 = .ok (.putfield 46, 3) := by decide +kernel
theorem dX11_init_107 : decode cX11_init 107 = .ok (.aload_n 0, 1) := by decide +kernel
theorem dX11_init_108 : decode cX11_init 108 = .ok (.sipush 232, 3) := by decide +kernel
theorem dX11_init_111 : decode cX11_init 111 = .ok (.newarray .int, 2) := by decide +kernel
theorem dX11_init_113 : decode cX11_init 113 = .ok (.putfield 49, 3) := by decide +kernel
theorem dX11_init_116 : decode cX11_init 116 = .ok (.aload_n 0, 1) := by decide +kernel
theorem dX11_init_117 : decode cX11_init 117 = .ok (.sipush 1856, 3) := by decide +kernel
theorem dX11_init_120 : decode cX11_init 120 = .ok (.newarray .byte, 2) := by decide +kernel
theorem dX11_init_122 : decode cX11_init 122 = .ok (.putfield 52, 3) := by decide +kernel
theorem dX11_init_125 : decode cX11_init 125 = .ok (.aload_n 0, 1) := by decide +kernel
theorem dX11_init_126 : decode cX11_init 126 = .ok (.sipush 1908, 3) := by decide +kernel
theorem dX11_init_129 : decode cX11_init 129 = .ok (.newarray .int, 2) := by decide +kernel
theorem dX11_init_131 : decode cX11_init 131 = .ok (.putfield 55, 3) := by decide +kernel
theorem dX11_init_134 : decode cX11_init 134 = .ok (.aload_n 0, 1) := by decide +kernel
theorem dX11_init_135 : decode cX11_init 135 = .ok (.sipush 1908, 3) := by decide +kernel
theorem dX11_init_138 : decode cX11_init 138 = .ok (.newarray .boolean, 2) := by decide +kernel
theorem dX11_init_140 : decode cX11_init 140 = .ok (.putfield 58, 3) := by decide +kernel
theorem dX11_init_143 : decode cX11_init 143 = .ok (.aload_n 0, 1) := by decide +kernel
theorem dX11_init_144 : decode cX11_init 144 = .ok (.iconst 5, 1) := by decide +kernel
theorem dX11_init_145 : decode cX11_init 145 = .ok (.newarray .int, 2) := by decide +kernel
theorem dX11_init_147 : decode cX11_init 147 = .ok (.putfield 62, 3) := by decide +kernel
theorem dX11_init_150 : decode cX11_init 150 = .ok (.aload_n 0, 1) := by decide +kernel
theorem dX11_init_151 : decode cX11_init 151 = .ok (.sipush 345, 3) := by decide +kernel
theorem dX11_init_154 : decode cX11_init 154 = .ok (.newarray .int, 2) := by decide +kernel
theorem dX11_init_156 : decode cX11_init 156 = .ok (.putfield 65, 3) := by decide +kernel
theorem dX11_init_159 : decode cX11_init 159 = .ok (.aload_n 0, 1) := by decide +kernel
theorem dX11_init_160 : decode cX11_init 160 = .ok (.sipush 240, 3) := by decide +kernel
theorem dX11_init_163 : decode cX11_init 163 = .ok (.newarray .int, 2) := by decide +kernel
theorem dX11_init_165 : decode cX11_init 165 = .ok (.putfield 68, 3) := by decide +kernel
theorem dX11_init_168 : decode cX11_init 168 = .ok (.aload_n 0, 1) := by decide +kernel
theorem dX11_init_169 : decode cX11_init 169 = .ok (.sipush 240, 3) := by decide +kernel
theorem dX11_init_172 : decode cX11_init 172 = .ok (.newarray .boolean, 2) := by decide +kernel
theorem dX11_init_174 : decode cX11_init 174 = .ok (.putfield 71, 3) := by decide +kernel
theorem dX11_init_177 : decode cX11_init 177 = .ok (.aload_n 0, 1) := by decide +kernel
theorem dX11_init_178 : decode cX11_init 178 = .ok (.sipush 954, 3) := by decide +kernel
theorem dX11_init_181 : decode cX11_init 181 = .ok (.newarray .int, 2) := by decide +kernel
theorem dX11_init_183 : decode cX11_init 183 = .ok (.putfield 74, 3) := by decide +kernel
theorem dX11_init_186 : decode cX11_init 186 = .ok (.aload_n 0, 1) := by decide +kernel
theorem dX11_init_187 : decode cX11_init 187 = .ok (.sipush 954, 3) := by decide +kernel
theorem dX11_init_190 : decode cX11_init 190 = .ok (.newarray .boolean, 2) := by decide +kernel
theorem dX11_init_192 : decode cX11_init 192 = .ok (.putfield 77, 3) := by decide +kernel
theorem dX11_init_195 : decode cX11_init 195 = .ok (.aload_n 0, 1) := by decide +kernel
theorem dX11_init_196 : decode cX11_init 196 = .ok (.sipush 954, 3) := by decide +kernel
theorem dX11_init_199 : decode cX11_init 199 = .ok (.newarray .boolean, 2) := by decide +kernel
theorem dX11_init_201 : decode cX11_init 201 = .ok (.putfield 80, 3) := by decide +kernel
theorem dX11_init_204 : decode cX11_init 204 = .ok (.aload_n 0, 1) := by decide +kernel
theorem dX11_init_205 : decode cX11_init 205 = .ok (.bipush 40, 2) := by decide +kernel
theorem dX11_init_207 : decode cX11_init 207 = .ok (.newarray .int, 2) := by decide +kernel
theorem dX11_init_209 : decode cX11_init 209 = .ok (.putfield 83, 3) := by decide +kernel
theorem dX11_init_212 : decode cX11_init 212 = .ok (.aload_n 0, 1) := by decide +kernel
theorem dX11_init_213 : decode cX11_init 213 = .ok (.ldc 86, 2) := by decide +kernel
theorem dX11_init_215 : decode cX11_init 215 = .ok (.newarray .int, 2) := by decide +kernel
theorem dX11_init_217 : decode cX11_init 217 = .ok (.putfield 87, 3) := by decide +kernel
theorem dX11_init_220 : decode cX11_init 220 = .ok (.aload_n 0, 1) := by decide +kernel
theorem dX11_init_221 : decode cX11_init 221 = .ok (.sipush 345, 3) := by decide +kernel
theorem dX11_init_224 : decode cX11_init 224 = .ok (.newarray .int, 2) := by decide +kernel
theorem dX11_init_226 : decode cX11_init 226 = .ok (.putfield 90, 3) := by decide +kernel
theorem dX11_init_229 : decode cX11_init 229 = .ok (.aload_n 0, 1) := by decide +kernel
theorem dX11_init_230 : decode cX11_init 230 = .ok (.sipush 345, 3) := by decide +kernel
theorem dX11_init_233 : decode cX11_init 233 = .ok (.newarray .int, 2) := by decide +kernel
theorem dX11_init_235 : decode cX11_init 235 = .ok (.putfield 93, 3) := by decide +kernel
theorem dX11_init_238 : decode cX11_init 238 = .ok (.aload_n 0, 1) := by decide +kernel
theorem dX11_init_239 : decode cX11_init 239 = .ok (.bipush 40, 2) := by decide +kernel
theorem dX11_init_241 : decode cX11_init 241 = .ok (.newarray .int, 2) := by decide +kernel
theorem dX11_init_243 : decode cX11_init 243 = .ok (.putfield 96, 3) := by decide +kernel
theorem dX11_init_246 : decode cX11_init 246 = .ok (.aload_n 0, 1) := by decide +kernel
theorem dX11_init_247 : decode cX11_init 247 = .ok (.iconst 4, 1) := by decide +kernel
theorem dX11_init_248 : decode cX11_init 248 = .ok (.newarray .int, 2) := by decide +kernel
theorem dX11_init_250 : decode cX11_init 250 = .ok (.putfield 99, 3) := by decide +kernel
theorem dX11_init_253 : decode cX11_init 253 = .ok (.aload_n 0, 1) := by decide +kernel
theorem dX11_init_254 : decode cX11_init 254 = .ok (.bipush 40, 2) := by decide +kernel
theorem dX11_init_256 : decode cX11_init 256 = .ok (.newarray .int, 2) := by decide +kernel
theorem dX11_init_258 : decode cX11_init 258 = .ok (.putfield 102, 3) := by decide +kernel
theorem dX11_init_261 : decode cX11_init 261 = .ok (.aload_n 0, 1) := by decide +kernel
theorem dX11_init_262 : decode cX11_init 262 = .ok (.iconst (-1), 1) := by decide +kernel
theorem dX11_init_263 : decode cX11_init 263 = .ok (.putfield 105, 3) := by decide +kernel
theorem dX11_init_266 : decode cX11_init 266 = .ok (.aload_n 0, 1) := by decide +kernel
theorem dX11_init_267 : decode cX11_init 267 = .ok (.iconst 4, 1) := by decide +kernel
theorem dX11_init_268 : decode cX11_init 268 = .ok (.newarray .int, 2) := by decide +kernel
theorem dX11_init_270 : decode cX11_init 270 = .ok (.putfield 108, 3) := by decide +kernel
theorem dX11_init_273 : decode cX11_init 273 = .ok (.aload_n 0, 1) := by decide +kernel
theorem dX11_init_274 : decode cX11_init 274 = .ok (.sipush 345, 3) := by decide +kernel
theorem dX11_init_277 : decode cX11_init 277 = .ok (.newarray .int, 2) := by decide +kernel
theorem dX11_init_279 : decode cX11_init 279 = .ok (.putfield 111, 3) := by decide +kernel
theorem dX11_init_282 : decode cX11_init 282 = .ok (.aload_n 0, 1) := by decide +kernel
theorem dX11_init_283 : decode cX11_init 283 = .ok (.iconst 4, 1) := by decide +kernel
theorem dX11_init_284 : decode cX11_init 284 = .ok (.newarray .boolean, 2) := by decide +kernel
theorem dX11_init_286 : decode cX11_init 286 = .ok (.putfield 114, 3) := by decide +kernel
theorem dX11_init_289 : decode cX11_init 289 = .ok (.iconst 0, 1) := by decide +kernel
theorem dX11_init_290 : decode cX11_init 290 = .ok (.istore_n 1, 1) := by decide +kernel
theorem dX11_init_291 : decode cX11_init 291 = .ok (.iload_n 1, 1) := by decide +kernel
theorem dX11_init_292 : decode cX11_init 292 = .ok (.sipush 954, 3) := by decide +kernel
theorem dX11_init_295 : decode cX11_init 295 = .ok (.if_icmp .ge 16, 3) := by decide +kernel
theorem dX11_init_298 : decode cX11_init 298 = .ok (.aload_n 0, 1) := by decide +kernel
theorem dX11_init_299 : decode cX11_init 299 = .ok (.getfield 55, 3) := by decide +kernel
theorem dX11_init_302 : decode cX11_init 302 = .ok (.iload_n 1, 1) := by decide +kernel
theorem dX11_init_303 : decode cX11_init 303 = .ok (.iload_n 1, 1) := by decide +kernel
theorem dX11_init_304 : decode cX11_init 304 = .ok (.iastore, 1) := by decide +kernel
theorem dX11_init_305 : decode cX11_init 305 = .ok (.iinc 1 1, 3) := by decide +kernel
theorem dX11_init_308 : decode cX11_init 308 = .ok (.goto (-17), 3) := by decide +kernel
theorem dX11_init_311 : decode cX11_init 311 = .ok (.iconst 0, 1) := by decide +kernel
theorem dX11_init_312 : decode cX11_init 312 = .ok (.istore_n 1, 1) := by decide +kernel
theorem dX11_init_313 : decode cX11_init 313 = .ok (.iload_n 1, 1) := by decide +kernel
theorem dX11_init_314 : decode cX11_init 314 = .ok (.sipush 240, 3) := by decide +kernel
theorem dX11_init_317 : decode cX11_init 317 = .ok (.if_icmp .ge 16, 3) := by decide +kernel
theorem dX11_init_320 : decode cX11_init 320 = .ok (.aload_n 0, 1) := by decide +kernel
theorem dX11_init_321 : decode cX11_init 321 = .ok (.getfield 68, 3) := by decide +kernel
theorem dX11_init_324 : decode cX11_init 324 = .ok (.iload_n 1, 1) := by decide +kernel
theorem dX11_init_325 : decode cX11_init 325 = .ok (.iconst (-1), 1) := by decide +kernel
theorem dX11_init_326 : decode cX11_init 326 = .ok (.iastore, 1) := by decide +kernel
theorem dX11_init_327 : decode cX11_init 327 = .ok (.iinc 1 1, 3) := by decide +kernel
theorem dX11_init_330 : decode cX11_init 330 = .ok (.goto (-17), 3) := by decide +kernel
theorem dX11_init_333 : decode cX11_init 333 = .ok (.return_, 1) := by decide +kernel
theorem dX11_feed_0 : decode cX11_feed 0 = .ok (.aload_n 0, 1) := by decide +kernel
theorem dX11_feed_1 : decode cX11_feed 1 = .ok (.getfield 117, 3) := by decide +kernel
theorem dX11_feed_4 : decode cX11_feed 4 = .ok (.bipush 20, 2) := by decide +kernel
theorem dX11_feed_6 : decode cX11_feed 6 = .ok (.iadd, 1) := by decide +kernel
theorem dX11_feed_7 : decode cX11_feed 7 = .ok (.sipush 4000, 3) := by decide +kernel
theorem dX11_feed_10 : decode cX11_feed 10 = .ok (.if_icmp .le 5, 3) := by decide +kernel
theorem dX11_feed_13 : decode cX11_feed 13 = .ok (.iconst (-1), 1) := by decide +kernel
theorem dX11_feed_14 : decode cX11_feed 14 = .ok (.ireturn, 1) := by decide +kernel
theorem dX11_feed_15 : decode cX11_feed 15 = .ok (.aload_n 0, 1) := by decide +kernel
theorem dX11_feed_16 : decode cX11_feed 16 = .ok (.iload_n 1, 1) := by decide +kernel
theorem dX11_feed_17 : decode cX11_feed 17 = .ok (.invokevirtual 120, 3) := by decide +kernel
theorem dX11_feed_20 : decode cX11_feed 20 = .ok (.aload_n 0, 1) := by decide +kernel
theorem dX11_feed_21 : decode cX11_feed 21 = .ok (.iload_n 2, 1) := by decide +kernel
theorem dX11_feed_22 : decode cX11_feed 22 = .ok (.invokevirtual 120, 3) := by decide +kernel
theorem dX11_feed_25 : decode cX11_feed 25 = .ok (.aload_n 0, 1) := by decide +kernel
theorem dX11_feed_26 : decode cX11_feed 26 = .ok (.iload_n 3, 1) := by decide +kernel
theorem dX11_feed_27 : decode cX11_feed 27 = .ok (.invokevirtual 120, 3) := by decide +kernel
theorem dX11_feed_30 : decode cX11_feed 30 = .ok (.aload_n 0, 1) := by decide +kernel
theorem dX11_feed_31 : decode cX11_feed 31 = .ok (.iload 4, 2) := by decide +kernel
theorem dX11_feed_33 : decode cX11_feed 33 = .ok (.invokevirtual 120, 3) := by decide +kernel
theorem dX11_feed_36 : decode cX11_feed 36 = .ok (.aload_n 0, 1) := by decide +kernel
theorem dX11_feed_37 : decode cX11_feed 37 = .ok (.iload 5, 2) := by decide +kernel
theorem dX11_feed_39 : decode cX11_feed 39 = .ok (.invokevirtual 120, 3) := by decide +kernel
theorem dX11_feed_42 : decode cX11_feed 42 = .ok (.aload_n 0, 1) := by decide +kernel
theorem dX11_feed_43 : decode cX11_feed 43 = .ok (.getfield 117, 3) := by decide +kernel
theorem dX11_feed_46 : decode cX11_feed 46 = .ok (.ireturn, 1) := by decide +kernel
theorem dX11_four_0 : decode cX11_four 0 = .ok (.bipush 24, 2) := by decide +kernel
theorem dX11_four_2 : decode cX11_four 2 = .ok (.istore_n 2, 1) := by decide +kernel
theorem dX11_four_3 : decode cX11_four 3 = .ok (.iload_n 2, 1) := by decide +kernel
theorem dX11_four_4 : decode cX11_four 4 = .ok (.ifCond .lt 32, 3) := by decide +kernel
theorem dX11_four_7 : decode cX11_four 7 = .ok (.aload_n 0, 1) := by decide +kernel
theorem dX11_four_8 : decode cX11_four 8 = .ok (.getfield 7, 3) := by decide +kernel
theorem dX11_four_11 : decode cX11_four 11 = .ok (.aload_n 0, 1) := by decide +kernel
theorem dX11_four_12 : decode cX11_four 12 = .ok (.getfield 117, 3) := by decide +kernel
theorem dX11_four_15 : decode cX11_four 15 = .ok (.iload_n 1, 1) := by decide +kernel
theorem dX11_four_16 : decode cX11_four 16 = .ok (.iload_n 2, 1) := by decide +kernel
theorem dX11_four_17 : decode cX11_four 17 = .ok (.ishr, 1) := by decide +kernel
theorem dX11_four_18 : decode cX11_four 18 = .ok (.i2b, 1) := by decide +kernel
theorem dX11_four_19 : decode cX11_four 19 = .ok (.bastore, 1) := by decide +kernel
theorem dX11_four_20 : decode cX11_four 20 = .ok (.aload_n 0, 1) := by decide +kernel
theorem dX11_four_21 : decode cX11_four 21 = .ok (.dup, 1) := by decide +kernel
theorem dX11_four_22 : decode cX11_four 22 = .ok (.getfield 117, 3) := by decide +kernel
theorem dX11_four_25 : decode cX11_four 25 = .ok (.iconst 1, 1) := by decide +kernel
theorem dX11_four_26 : decode cX11_four 26 = .ok (.iadd, 1) := by decide +kernel
theorem dX11_four_27 : decode cX11_four 27 = .ok (.putfield 117, 3) := by decide +kernel
theorem dX11_four_30 : decode cX11_four 30 = .ok (.iinc 2 (-8), 3) := by decide +kernel
theorem dX11_four_33 : decode cX11_four 33 = .ok (.goto (-30), 3) := by decide +kernel
theorem dX11_four_36 : decode cX11_four 36 = .ok (.return_, 1) := by decide +kernel
theorem dX11_byteAt_0 : decode cX11_byteAt 0 = .ok (.iload_n 1, 1) := by decide +kernel
theorem dX11_byteAt_1 : decode cX11_byteAt 1 = .ok (.aload_n 0, 1) := by decide +kernel
theorem dX11_byteAt_2 : decode cX11_byteAt 2 = .ok (.getfield 124, 3) := by decide +kernel
theorem dX11_byteAt_5 : decode cX11_byteAt 5 = .ok (.if_icmp .ge 16, 3) := by decide +kernel
theorem dX11_byteAt_8 : decode cX11_byteAt 8 = .ok (.aload_n 0, 1) := by decide +kernel
theorem dX11_byteAt_9 : decode cX11_byteAt 9 = .ok (.getfield 13, 3) := by decide +kernel
theorem dX11_byteAt_12 : decode cX11_byteAt 12 = .ok (.iload_n 1, 1) := by decide +kernel
theorem dX11_byteAt_13 : decode cX11_byteAt 13 = .ok (.baload, 1) := by decide +kernel
theorem dX11_byteAt_14 : decode cX11_byteAt 14 = .ok (.sipush 255, 3) := by decide +kernel
theorem dX11_byteAt_17 : decode cX11_byteAt 17 = .ok (.iand, 1) := by decide +kernel
theorem dX11_byteAt_18 : decode cX11_byteAt 18 = .ok (.goto 4, 3) := by decide +kernel
theorem dX11_byteAt_21 : decode cX11_byteAt 21 = .ok (.iconst 0, 1) := by decide +kernel
theorem dX11_byteAt_22 : decode cX11_byteAt 22 = .ok (.ireturn, 1) := by decide +kernel
theorem dX11_isDigit_0 : decode cX11_isDigit 0 = .ok (.iload_n 0, 1) := by decide +kernel
theorem dX11_isDigit_1 : decode cX11_isDigit 1 = .ok (.bipush 48, 2) := by decide +kernel
theorem dX11_isDigit_3 : decode cX11_isDigit 3 = .ok (.if_icmp .lt 13, 3) := by decide +kernel
theorem dX11_isDigit_6 : decode cX11_isDigit 6 = .ok (.iload_n 0, 1) := by decide +kernel
theorem dX11_isDigit_7 : decode cX11_isDigit 7 = .ok (.bipush 57, 2) := by decide +kernel
theorem dX11_isDigit_9 : decode cX11_isDigit 9 = .ok (.if_icmp .gt 7, 3) := by decide +kernel
theorem dX11_isDigit_12 : decode cX11_isDigit 12 = .ok (.iconst 1, 1) := by decide +kernel
theorem dX11_isDigit_13 : decode cX11_isDigit 13 = .ok (.goto 4, 3) := by decide +kernel
theorem dX11_isDigit_16 : decode cX11_isDigit 16 = .ok (.iconst 0, 1) := by decide +kernel
theorem dX11_isDigit_17 : decode cX11_isDigit 17 = .ok (.ireturn, 1) := by decide +kernel
theorem dX11_isLetter_0 : decode cX11_isLetter 0 = .ok (.iload_n 0, 1) := by decide +kernel
theorem dX11_isLetter_1 : decode cX11_isLetter 1 = .ok (.bipush 97, 2) := by decide +kernel
theorem dX11_isLetter_3 : decode cX11_isLetter 3 = .ok (.if_icmp .lt 9, 3) := by decide +kernel
theorem dX11_isLetter_6 : decode cX11_isLetter 6 = .ok (.iload_n 0, 1) := by decide +kernel
theorem dX11_isLetter_7 : decode cX11_isLetter 7 = .ok (.bipush 122, 2) := by decide +kernel
theorem dX11_isLetter_9 : decode cX11_isLetter 9 = .ok (.if_icmp .le 15, 3) := by decide +kernel
theorem dX11_isLetter_12 : decode cX11_isLetter 12 = .ok (.iload_n 0, 1) := by decide +kernel
theorem dX11_isLetter_13 : decode cX11_isLetter 13 = .ok (.bipush 65, 2) := by decide +kernel
theorem dX11_isLetter_15 : decode cX11_isLetter 15 = .ok (.if_icmp .lt 13, 3) := by decide +kernel
theorem dX11_isLetter_18 : decode cX11_isLetter 18 = .ok (.iload_n 0, 1) := by decide +kernel
theorem dX11_isLetter_19 : decode cX11_isLetter 19 = .ok (.bipush 90, 2) := by decide +kernel
theorem dX11_isLetter_21 : decode cX11_isLetter 21 = .ok (.if_icmp .gt 7, 3) := by decide +kernel
theorem dX11_isLetter_24 : decode cX11_isLetter 24 = .ok (.iconst 1, 1) := by decide +kernel
theorem dX11_isLetter_25 : decode cX11_isLetter 25 = .ok (.goto 4, 3) := by decide +kernel
theorem dX11_isLetter_28 : decode cX11_isLetter 28 = .ok (.iconst 0, 1) := by decide +kernel
theorem dX11_isLetter_29 : decode cX11_isLetter 29 = .ok (.ireturn, 1) := by decide +kernel
theorem dX11_token_0 : decode cX11_token 0 = .ok (.aload_n 0, 1) := by decide +kernel
theorem dX11_token_1 : decode cX11_token 1 = .ok (.getfield 16, 3) := by decide +kernel
theorem dX11_token_4 : decode cX11_token 4 = .ok (.aload_n 0, 1) := by decide +kernel
theorem dX11_token_5 : decode cX11_token 5 = .ok (.getfield 127, 3) := by decide +kernel
theorem dX11_token_8 : decode cX11_token 8 = .ok (.iload_n 1, 1) := by decide +kernel
theorem dX11_token_9 : decode cX11_token 9 = .ok (.iastore, 1) := by decide +kernel
theorem dX11_token_10 : decode cX11_token 10 = .ok (.aload_n 0, 1) := by decide +kernel
theorem dX11_token_11 : decode cX11_token 11 = .ok (.getfield 20, 3) := by decide +kernel
theorem dX11_token_14 : decode cX11_token 14 = .ok (.aload_n 0, 1) := by decide +kernel
theorem dX11_token_15 : decode cX11_token 15 = .ok (.getfield 127, 3) := by decide +kernel
theorem dX11_token_18 : decode cX11_token 18 = .ok (.iload_n 2, 1) := by decide +kernel
theorem dX11_token_19 : decode cX11_token 19 = .ok (.iastore, 1) := by decide +kernel
theorem dX11_token_20 : decode cX11_token 20 = .ok (.aload_n 0, 1) := by decide +kernel
theorem dX11_token_21 : decode cX11_token 21 = .ok (.getfield 23, 3) := by decide +kernel
theorem dX11_token_24 : decode cX11_token 24 = .ok (.aload_n 0, 1) := by decide +kernel
theorem dX11_token_25 : decode cX11_token 25 = .ok (.getfield 127, 3) := by decide +kernel
theorem dX11_token_28 : decode cX11_token 28 = .ok (.iload_n 3, 1) := by decide +kernel
theorem dX11_token_29 : decode cX11_token 29 = .ok (.iastore, 1) := by decide +kernel
theorem dX11_token_30 : decode cX11_token 30 = .ok (.aload_n 0, 1) := by decide +kernel
theorem dX11_token_31 : decode cX11_token 31 = .ok (.getfield 26, 3) := by decide +kernel
theorem dX11_token_34 : decode cX11_token 34 = .ok (.aload_n 0, 1) := by decide +kernel
theorem dX11_token_35 : decode cX11_token 35 = .ok (.getfield 127, 3) := by decide +kernel
theorem dX11_token_38 : decode cX11_token 38 = .ok (.lload 4, 2) := by decide +kernel
theorem dX11_token_40 : decode cX11_token 40 = .ok (.lastore, 1) := by decide +kernel
theorem dX11_token_41 : decode cX11_token 41 = .ok (.aload_n 0, 1) := by decide +kernel
theorem dX11_token_42 : decode cX11_token 42 = .ok (.dup, 1) := by decide +kernel
theorem dX11_token_43 : decode cX11_token 43 = .ok (.getfield 127, 3) := by decide +kernel
theorem dX11_token_46 : decode cX11_token 46 = .ok (.iconst 1, 1) := by decide +kernel
theorem dX11_token_47 : decode cX11_token 47 = .ok (.iadd, 1) := by decide +kernel
theorem dX11_token_48 : decode cX11_token 48 = .ok (.putfield 127, 3) := by decide +kernel
theorem dX11_token_51 : decode cX11_token 51 = .ok (.return_, 1) := by decide +kernel
theorem dX11_lex_0 : decode cX11_lex 0 = .ok (.aload_n 0, 1) := by decide +kernel
theorem dX11_lex_1 : decode cX11_lex 1 = .ok (.iconst 0, 1) := by decide +kernel
theorem dX11_lex_2 : decode cX11_lex 2 = .ok (.putfield 127, 3) := by decide +kernel
theorem dX11_lex_5 : decode cX11_lex 5 = .ok (.iconst 0, 1) := by decide +kernel
theorem dX11_lex_6 : decode cX11_lex 6 = .ok (.istore_n 1, 1) := by decide +kernel
theorem dX11_lex_7 : decode cX11_lex 7 = .ok (.iconst 1, 1) := by decide +kernel
theorem dX11_lex_8 : decode cX11_lex 8 = .ok (.istore_n 2, 1) := by decide +kernel
theorem dX11_lex_9 : decode cX11_lex 9 = .ok (.iload_n 2, 1) := by decide +kernel
theorem dX11_lex_10 : decode cX11_lex 10 = .ok (.ifCond .eq 333, 3) := by decide +kernel
theorem dX11_lex_13 : decode cX11_lex 13 = .ok (.aload_n 0, 1) := by decide +kernel
theorem dX11_lex_14 : decode cX11_lex 14 = .ok (.iload_n 1, 1) := by decide +kernel
theorem dX11_lex_15 : decode cX11_lex 15 = .ok (.invokevirtual 130, 3) := by decide +kernel
theorem dX11_lex_18 : decode cX11_lex 18 = .ok (.bipush 32, 2) := by decide +kernel
theorem dX11_lex_20 : decode cX11_lex 20 = .ok (.if_icmp .eq 13, 3) := by decide +kernel
theorem dX11_lex_23 : decode cX11_lex 23 = .ok (.aload_n 0, 1) := by decide +kernel
theorem dX11_lex_24 : decode cX11_lex 24 = .ok (.iload_n 1, 1) := by decide +kernel
theorem dX11_lex_25 : decode cX11_lex 25 = .ok (.invokevirtual 130, 3) := by decide +kernel
theorem dX11_lex_28 : decode cX11_lex 28 = .ok (.bipush 10, 2) := by decide +kernel
theorem dX11_lex_30 : decode cX11_lex 30 = .ok (.if_icmp .ne 9, 3) := by decide +kernel
theorem dX11_lex_33 : decode cX11_lex 33 = .ok (.iinc 1 1, 3) := by decide +kernel
theorem dX11_lex_36 : decode cX11_lex 36 = .ok (.goto (-23), 3) := by decide +kernel
theorem dX11_lex_39 : decode cX11_lex 39 = .ok (.aload_n 0, 1) := by decide +kernel
theorem dX11_lex_40 : decode cX11_lex 40 = .ok (.iload_n 1, 1) := by decide +kernel
theorem dX11_lex_41 : decode cX11_lex 41 = .ok (.invokevirtual 130, 3) := by decide +kernel
theorem dX11_lex_44 : decode cX11_lex 44 = .ok (.istore_n 3, 1) := by decide +kernel
theorem dX11_lex_45 : decode cX11_lex 45 = .ok (.iconst 1, 1) := by decide +kernel
theorem dX11_lex_46 : decode cX11_lex 46 = .ok (.istore 4, 2) := by decide +kernel
theorem dX11_lex_48 : decode cX11_lex 48 = .ok (.iload_n 3, 1) := by decide +kernel
theorem dX11_lex_49 : decode cX11_lex 49 = .ok (.i2l, 1) := by decide +kernel
theorem dX11_lex_50 : decode cX11_lex 50 = .ok (.lstore 5, 2) := by decide +kernel
theorem dX11_lex_52 : decode cX11_lex 52 = .ok (.iload_n 1, 1) := by decide +kernel
theorem dX11_lex_53 : decode cX11_lex 53 = .ok (.aload_n 0, 1) := by decide +kernel
theorem dX11_lex_54 : decode cX11_lex 54 = .ok (.getfield 124, 3) := by decide +kernel
theorem dX11_lex_57 : decode cX11_lex 57 = .ok (.if_icmp .lt 16, 3) := by decide +kernel
theorem dX11_lex_60 : decode cX11_lex 60 = .ok (.aload_n 0, 1) := by decide +kernel
theorem dX11_lex_61 : decode cX11_lex 61 = .ok (.iconst 0, 1) := by decide +kernel
theorem dX11_lex_62 : decode cX11_lex 62 = .ok (.iload_n 1, 1) := by decide +kernel
theorem dX11_lex_63 : decode cX11_lex 63 = .ok (.iconst 0, 1) := by decide +kernel
theorem dX11_lex_64 : decode cX11_lex 64 = .ok (.lconst 0, 1) := by decide +kernel
theorem dX11_lex_65 : decode cX11_lex 65 = .ok (.invokevirtual 134, 3) := by decide +kernel
theorem dX11_lex_68 : decode cX11_lex 68 = .ok (.iconst 0, 1) := by decide +kernel
theorem dX11_lex_69 : decode cX11_lex 69 = .ok (.istore_n 2, 1) := by decide +kernel
theorem dX11_lex_70 : decode cX11_lex 70 = .ok (.goto 265, 3) := by decide +kernel
theorem dX11_lex_73 : decode cX11_lex 73 = .ok (.iload_n 3, 1) := by decide +kernel
theorem dX11_lex_74 : decode cX11_lex 74 = .ok (.invokestatic 138, 3) := by decide +kernel
theorem dX11_lex_77 : decode cX11_lex 77 = .ok (.ifCond .eq 111, 3) := by decide +kernel
theorem dX11_lex_80 : decode cX11_lex 80 = .ok (.aload_n 0, 1) := by decide +kernel
theorem dX11_lex_81 : decode cX11_lex 81 = .ok (.iload_n 1, 1) := by decide +kernel
theorem dX11_lex_82 : decode cX11_lex 82 = .ok (.iload 4, 2) := by decide +kernel
theorem dX11_lex_84 : decode cX11_lex 84 = .ok (.iadd, 1) := by decide +kernel
theorem dX11_lex_85 : decode cX11_lex 85 = .ok (.invokevirtual 130, 3) := by decide +kernel
theorem dX11_lex_88 : decode cX11_lex 88 = .ok (.invokestatic 138, 3) := by decide +kernel
theorem dX11_lex_91 : decode cX11_lex 91 = .ok (.ifCond .ne 17, 3) := by decide +kernel
theorem dX11_lex_94 : decode cX11_lex 94 = .ok (.aload_n 0, 1) := by decide +kernel
theorem dX11_lex_95 : decode cX11_lex 95 = .ok (.iload_n 1, 1) := by decide +kernel
theorem dX11_lex_96 : decode cX11_lex 96 = .ok (.iload 4, 2) := by decide +kernel
theorem dX11_lex_98 : decode cX11_lex 98 = .ok (.iadd, 1) := by decide +kernel
theorem dX11_lex_99 : decode cX11_lex 99 = .ok (.invokevirtual 130, 3) := by decide +kernel
theorem dX11_lex_102 : decode cX11_lex 102 = .ok (.invokestatic 142, 3) := by decide +kernel
theorem dX11_lex_105 : decode cX11_lex 105 = .ok (.ifCond .eq 9, 3) := by decide +kernel
theorem dX11_lex_108 : decode cX11_lex 108 = .ok (.iinc 4 1, 3) := by decide +kernel
theorem dX11_lex_111 : decode cX11_lex 111 = .ok (.goto (-31), 3) := by decide +kernel
theorem dX11_lex_114 : decode cX11_lex 114 = .ok (.iconst 1, 1) := by decide +kernel
theorem dX11_lex_115 : decode cX11_lex 115 = .ok (.istore 7, 2) := by decide +kernel
theorem dX11_lex_117 : decode cX11_lex 117 = .ok (.iload 7, 2) := by decide +kernel
theorem dX11_lex_119 : decode cX11_lex 119 = .ok (.iload 4, 2) := by decide +kernel
theorem dX11_lex_121 : decode cX11_lex 121 = .ok (.if_icmp .ge 33, 3) := by decide +kernel
theorem dX11_lex_124 : decode cX11_lex 124 = .ok (.iload 7, 2) := by decide +kernel
theorem dX11_lex_126 : decode cX11_lex 126 = .ok (.bipush 8, 2) := by decide +kernel
theorem dX11_lex_128 : decode cX11_lex 128 = .ok (.if_icmp .ge 26, 3) := by decide +kernel
theorem dX11_lex_131 : decode cX11_lex 131 = .ok (.lload 5, 2) := by decide +kernel
theorem dX11_lex_133 : decode cX11_lex 133 = .ok (.bipush 8, 2) := by decide +kernel
theorem dX11_lex_135 : decode cX11_lex 135 = .ok (.lshl, 1) := by decide +kernel
theorem dX11_lex_136 : decode cX11_lex 136 = .ok (.aload_n 0, 1) := by decide +kernel
theorem dX11_lex_137 : decode cX11_lex 137 = .ok (.iload_n 1, 1) := by decide +kernel
theorem dX11_lex_138 : decode cX11_lex 138 = .ok (.iload 7, 2) := by decide +kernel
theorem dX11_lex_140 : decode cX11_lex 140 = .ok (.iadd, 1) := by decide +kernel
theorem dX11_lex_141 : decode cX11_lex 141 = .ok (.invokevirtual 130, 3) := by decide +kernel
theorem dX11_lex_144 : decode cX11_lex 144 = .ok (.i2l, 1) := by decide +kernel
theorem dX11_lex_145 : decode cX11_lex 145 = .ok (.lor, 1) := by decide +kernel
theorem dX11_lex_146 : decode cX11_lex 146 = .ok (.lstore 5, 2) := by decide +kernel
theorem dX11_lex_148 : decode cX11_lex 148 = .ok (.iinc 7 1, 3) := by decide +kernel
theorem dX11_lex_151 : decode cX11_lex 151 = .ok (.goto (-34), 3) := by decide +kernel
theorem dX11_lex_154 : decode cX11_lex 154 = .ok (.iload 4, 2) := by decide +kernel
theorem dX11_lex_156 : decode cX11_lex 156 = .ok (.bipush 8, 2) := by decide +kernel
theorem dX11_lex_158 : decode cX11_lex 158 = .ok (.if_icmp .gt 7, 3) := by decide +kernel
theorem dX11_lex_161 : decode cX11_lex 161 = .ok (.iconst 1, 1) := by decide +kernel
theorem dX11_lex_162 : decode cX11_lex 162 = .ok (.goto 4, 3) := by decide +kernel
theorem dX11_lex_165 : decode cX11_lex 165 = .ok (.iconst 0, 1) := by decide +kernel
theorem dX11_lex_166 : decode cX11_lex 166 = .ok (.istore_n 2, 1) := by decide +kernel
theorem dX11_lex_167 : decode cX11_lex 167 = .ok (.aload_n 0, 1) := by decide +kernel
theorem dX11_lex_168 : decode cX11_lex 168 = .ok (.iload_n 2, 1) := by decide +kernel
theorem dX11_lex_169 : decode cX11_lex 169 = .ok (.ifCond .eq 7, 3) := by decide +kernel
theorem dX11_lex_172 : decode cX11_lex 172 = .ok (.iconst 1, 1) := by decide +kernel
theorem dX11_lex_173 : decode cX11_lex 173 = .ok (.goto 4, 3) := by decide +kernel
theorem dX11_lex_176 : decode cX11_lex 176 = .ok (.iconst 4, 1) := by decide +kernel
theorem dX11_lex_177 : decode cX11_lex 177 = .ok (.iload_n 1, 1) := by decide +kernel
theorem dX11_lex_178 : decode cX11_lex 178 = .ok (.iload 4, 2) := by decide +kernel
theorem dX11_lex_180 : decode cX11_lex 180 = .ok (.lload 5, 2) := by decide +kernel
theorem dX11_lex_182 : decode cX11_lex 182 = .ok (.invokevirtual 134, 3) := by decide +kernel
theorem dX11_lex_185 : decode cX11_lex 185 = .ok (.goto 150, 3) := by decide +kernel
theorem dX11_lex_188 : decode cX11_lex 188 = .ok (.iload_n 3, 1) := by decide +kernel
theorem dX11_lex_189 : decode cX11_lex 189 = .ok (.invokestatic 142, 3) := by decide +kernel
theorem dX11_lex_192 : decode cX11_lex 192 = .ok (.ifCond .eq 96, 3) := by decide +kernel
theorem dX11_lex_195 : decode cX11_lex 195 = .ok (.iload_n 3, 1) := by decide +kernel
theorem dX11_lex_196 : decode cX11_lex 196 = .ok (.bipush 48, 2) := by decide +kernel
theorem dX11_lex_198 : decode cX11_lex 198 = .ok (.isub, 1) := by decide +kernel
theorem dX11_lex_199 : decode cX11_lex 199 = .ok (.i2l, 1) := by decide +kernel
theorem dX11_lex_200 : decode cX11_lex 200 = .ok (.lstore 5, 2) := by decide +kernel
theorem dX11_lex_202 : decode cX11_lex 202 = .ok (.aload_n 0, 1) := by decide +kernel
theorem dX11_lex_203 : decode cX11_lex 203 = .ok (.iload_n 1, 1) := by decide +kernel
theorem dX11_lex_204 : decode cX11_lex 204 = .ok (.iload 4, 2) := by decide +kernel
theorem dX11_lex_206 : decode cX11_lex 206 = .ok (.iadd, 1) := by decide +kernel
theorem dX11_lex_207 : decode cX11_lex 207 = .ok (.invokevirtual 130, 3) := by decide +kernel
theorem dX11_lex_210 : decode cX11_lex 210 = .ok (.invokestatic 142, 3) := by decide +kernel
theorem dX11_lex_213 : decode cX11_lex 213 = .ok (.ifCond .eq 42, 3) := by decide +kernel
theorem dX11_lex_216 : decode cX11_lex 216 = .ok (.iload 4, 2) := by decide +kernel
theorem dX11_lex_218 : decode cX11_lex 218 = .ok (.iconst 4, 1) := by decide +kernel
theorem dX11_lex_219 : decode cX11_lex 219 = .ok (.if_icmp .ge 26, 3) := by decide +kernel
theorem dX11_lex_222 : decode cX11_lex 222 = .ok (.ldc2_w 145, 3) := by decide +kernel
theorem dX11_lex_225 : decode cX11_lex 225 = .ok (.lload 5, 2) := by decide +kernel
theorem dX11_lex_227 : decode cX11_lex 227 = .ok (.lmul, 1) := by decide +kernel
theorem dX11_lex_228 : decode cX11_lex 228 = .ok (.aload_n 0, 1) := by decide +kernel
theorem dX11_lex_229 : decode cX11_lex 229 = .ok (.iload_n 1, 1) := by decide +kernel
theorem dX11_lex_230 : decode cX11_lex 230 = .ok (.iload 4, 2) := by decide +kernel
theorem dX11_lex_232 : decode cX11_lex 232 = .ok (.iadd, 1) := by decide +kernel
theorem dX11_lex_233 : decode cX11_lex 233 = .ok (.invokevirtual 130, 3) := by decide +kernel
theorem dX11_lex_236 : decode cX11_lex 236 = .ok (.i2l, 1) := by decide +kernel
theorem dX11_lex_237 : decode cX11_lex 237 = .ok (.ladd, 1) := by decide +kernel
theorem dX11_lex_238 : decode cX11_lex 238 = .ok (.ldc2_w 147, 3) := by decide +kernel
theorem dX11_lex_241 : decode cX11_lex 241 = .ok (.lsub, 1) := by decide +kernel
theorem dX11_lex_242 : decode cX11_lex 242 = .ok (.goto 5, 3) := by decide +kernel
theorem dX11_lex_245 : decode cX11_lex 245 = .ok (.lload 5, 2) := by decide +kernel
theorem dX11_lex_247 : decode cX11_lex 247 = .ok (.lstore 5, 2) := by decide +kernel
theorem dX11_lex_249 : decode cX11_lex 249 = .ok (.iinc 4 1, 3) := by decide +kernel
theorem dX11_lex_252 : decode cX11_lex 252 = .ok (.goto (-50), 3) := by decide +kernel
theorem dX11_lex_255 : decode cX11_lex 255 = .ok (.iload 4, 2) := by decide +kernel
theorem dX11_lex_257 : decode cX11_lex 257 = .ok (.iconst 4, 1) := by decide +kernel
theorem dX11_lex_258 : decode cX11_lex 258 = .ok (.if_icmp .gt 7, 3) := by decide +kernel
theorem dX11_lex_261 : decode cX11_lex 261 = .ok (.iconst 1, 1) := by decide +kernel
theorem dX11_lex_262 : decode cX11_lex 262 = .ok (.goto 4, 3) := by decide +kernel
theorem dX11_lex_265 : decode cX11_lex 265 = .ok (.iconst 0, 1) := by decide +kernel
theorem dX11_lex_266 : decode cX11_lex 266 = .ok (.istore_n 2, 1) := by decide +kernel
theorem dX11_lex_267 : decode cX11_lex 267 = .ok (.aload_n 0, 1) := by decide +kernel
theorem dX11_lex_268 : decode cX11_lex 268 = .ok (.iload_n 2, 1) := by decide +kernel
theorem dX11_lex_269 : decode cX11_lex 269 = .ok (.ifCond .eq 7, 3) := by decide +kernel
theorem dX11_lex_272 : decode cX11_lex 272 = .ok (.iconst 2, 1) := by decide +kernel
theorem dX11_lex_273 : decode cX11_lex 273 = .ok (.goto 4, 3) := by decide +kernel
theorem dX11_lex_276 : decode cX11_lex 276 = .ok (.iconst 4, 1) := by decide +kernel
theorem dX11_lex_277 : decode cX11_lex 277 = .ok (.iload_n 1, 1) := by decide +kernel
theorem dX11_lex_278 : decode cX11_lex 278 = .ok (.iload 4, 2) := by decide +kernel
theorem dX11_lex_280 : decode cX11_lex 280 = .ok (.lload 5, 2) := by decide +kernel
theorem dX11_lex_282 : decode cX11_lex 282 = .ok (.invokevirtual 134, 3) := by decide +kernel
theorem dX11_lex_285 : decode cX11_lex 285 = .ok (.goto 50, 3) := by decide +kernel
theorem dX11_lex_288 : decode cX11_lex 288 = .ok (.iload_n 3, 1) := by decide +kernel
theorem dX11_lex_289 : decode cX11_lex 289 = .ok (.bipush 46, 2) := by decide +kernel
theorem dX11_lex_291 : decode cX11_lex 291 = .ok (.if_icmp .eq 21, 3) := by decide +kernel
theorem dX11_lex_294 : decode cX11_lex 294 = .ok (.iload_n 3, 1) := by decide +kernel
theorem dX11_lex_295 : decode cX11_lex 295 = .ok (.bipush 59, 2) := by decide +kernel
theorem dX11_lex_297 : decode cX11_lex 297 = .ok (.if_icmp .eq 15, 3) := by decide +kernel
theorem dX11_lex_300 : decode cX11_lex 300 = .ok (.iload_n 3, 1) := by decide +kernel
theorem dX11_lex_301 : decode cX11_lex 301 = .ok (.bipush 43, 2) := by decide +kernel
theorem dX11_lex_303 : decode cX11_lex 303 = .ok (.if_icmp .eq 9, 3) := by decide +kernel
theorem dX11_lex_306 : decode cX11_lex 306 = .ok (.iload_n 3, 1) := by decide +kernel
theorem dX11_lex_307 : decode cX11_lex 307 = .ok (.bipush 45, 2) := by decide +kernel
theorem dX11_lex_309 : decode cX11_lex 309 = .ok (.if_icmp .ne 7, 3) := by decide +kernel
theorem dX11_lex_312 : decode cX11_lex 312 = .ok (.iconst 1, 1) := by decide +kernel
theorem dX11_lex_313 : decode cX11_lex 313 = .ok (.goto 4, 3) := by decide +kernel
theorem dX11_lex_316 : decode cX11_lex 316 = .ok (.iconst 0, 1) := by decide +kernel
theorem dX11_lex_317 : decode cX11_lex 317 = .ok (.istore_n 2, 1) := by decide +kernel
theorem dX11_lex_318 : decode cX11_lex 318 = .ok (.aload_n 0, 1) := by decide +kernel
theorem dX11_lex_319 : decode cX11_lex 319 = .ok (.iload_n 2, 1) := by decide +kernel
theorem dX11_lex_320 : decode cX11_lex 320 = .ok (.ifCond .eq 7, 3) := by decide +kernel
theorem dX11_lex_323 : decode cX11_lex 323 = .ok (.iconst 3, 1) := by decide +kernel
theorem dX11_lex_324 : decode cX11_lex 324 = .ok (.goto 4, 3) := by decide +kernel
theorem dX11_lex_327 : decode cX11_lex 327 = .ok (.iconst 4, 1) := by decide +kernel
theorem dX11_lex_328 : decode cX11_lex 328 = .ok (.iload_n 1, 1) := by decide +kernel
theorem dX11_lex_329 : decode cX11_lex 329 = .ok (.iconst 1, 1) := by decide +kernel
theorem dX11_lex_330 : decode cX11_lex 330 = .ok (.lload 5, 2) := by decide +kernel
theorem dX11_lex_332 : decode cX11_lex 332 = .ok (.invokevirtual 134, 3) := by decide +kernel
theorem dX11_lex_335 : decode cX11_lex 335 = .ok (.iload_n 1, 1) := by decide +kernel
theorem dX11_lex_336 : decode cX11_lex 336 = .ok (.iload 4, 2) := by decide +kernel
theorem dX11_lex_338 : decode cX11_lex 338 = .ok (.iadd, 1) := by decide +kernel
theorem dX11_lex_339 : decode cX11_lex 339 = .ok (.istore_n 1, 1) := by decide +kernel
theorem dX11_lex_340 : decode cX11_lex 340 = .ok (.goto (-331), 3) := by decide +kernel
theorem dX11_lex_343 : decode cX11_lex 343 = .ok (.return_, 1) := by decide +kernel
theorem dX11_most_0 : decode cX11_most 0 = .ok (.iload_n 0, 1) := by decide +kernel
theorem dX11_most_1 : decode cX11_most 1 = .ok (.ifCond .ne 8, 3) := by decide +kernel
theorem dX11_most_4 : decode cX11_most 4 = .ok (.bipush 40, 2) := by decide +kernel
theorem dX11_most_6 : decode cX11_most 6 = .ok (.goto 14, 3) := by decide +kernel
theorem dX11_most_9 : decode cX11_most 9 = .ok (.iload_n 0, 1) := by decide +kernel
theorem dX11_most_10 : decode cX11_most 10 = .ok (.iconst 3, 1) := by decide +kernel
theorem dX11_most_11 : decode cX11_most 11 = .ok (.if_icmp .ne 7, 3) := by decide +kernel
theorem dX11_most_14 : decode cX11_most 14 = .ok (.iconst 4, 1) := by decide +kernel
theorem dX11_most_15 : decode cX11_most 15 = .ok (.goto 5, 3) := by decide +kernel
theorem dX11_most_18 : decode cX11_most 18 = .ok (.bipush 24, 2) := by decide +kernel
theorem dX11_most_20 : decode cX11_most 20 = .ok (.ireturn, 1) := by decide +kernel
theorem dX11_first_0 : decode cX11_first 0 = .ok (.iload_n 0, 1) := by decide +kernel
theorem dX11_first_1 : decode cX11_first 1 = .ok (.ifCond .ne 7, 3) := by decide +kernel
theorem dX11_first_4 : decode cX11_first 4 = .ok (.iconst 0, 1) := by decide +kernel
theorem dX11_first_5 : decode cX11_first 5 = .ok (.goto 35, 3) := by decide +kernel
theorem dX11_first_8 : decode cX11_first 8 = .ok (.iload_n 0, 1) := by decide +kernel
theorem dX11_first_9 : decode cX11_first 9 = .ok (.iconst 1, 1) := by decide +kernel
theorem dX11_first_10 : decode cX11_first 10 = .ok (.if_icmp .ne 8, 3) := by decide +kernel
theorem dX11_first_13 : decode cX11_first 13 = .ok (.bipush 40, 2) := by decide +kernel
theorem dX11_first_15 : decode cX11_first 15 = .ok (.goto 25, 3) := by decide +kernel
theorem dX11_first_18 : decode cX11_first 18 = .ok (.iload_n 0, 1) := by decide +kernel
theorem dX11_first_19 : decode cX11_first 19 = .ok (.iconst 2, 1) := by decide +kernel
theorem dX11_first_20 : decode cX11_first 20 = .ok (.if_icmp .ne 8, 3) := by decide +kernel
theorem dX11_first_23 : decode cX11_first 23 = .ok (.bipush 64, 2) := by decide +kernel
theorem dX11_first_25 : decode cX11_first 25 = .ok (.goto 15, 3) := by decide +kernel
theorem dX11_first_28 : decode cX11_first 28 = .ok (.iload_n 0, 1) := by decide +kernel
theorem dX11_first_29 : decode cX11_first 29 = .ok (.iconst 3, 1) := by decide +kernel
theorem dX11_first_30 : decode cX11_first 30 = .ok (.if_icmp .ne 8, 3) := by decide +kernel
theorem dX11_first_33 : decode cX11_first 33 = .ok (.bipush 88, 2) := by decide +kernel
theorem dX11_first_35 : decode cX11_first 35 = .ok (.goto 5, 3) := by decide +kernel
theorem dX11_first_38 : decode cX11_first 38 = .ok (.bipush 92, 2) := by decide +kernel
theorem dX11_first_40 : decode cX11_first 40 = .ok (.ireturn, 1) := by decide +kernel
theorem dX11_firstEnd_0 : decode cX11_firstEnd 0 = .ok (.iload_n 0, 1) := by decide +kernel
theorem dX11_firstEnd_1 : decode cX11_firstEnd 1 = .ok (.ifCond .ne 7, 3) := by decide +kernel
theorem dX11_firstEnd_4 : decode cX11_firstEnd 4 = .ok (.iconst 2, 1) := by decide +kernel
theorem dX11_firstEnd_5 : decode cX11_firstEnd 5 = .ok (.goto 39, 3) := by decide +kernel
theorem dX11_firstEnd_8 : decode cX11_firstEnd 8 = .ok (.iload_n 0, 1) := by decide +kernel
theorem dX11_firstEnd_9 : decode cX11_firstEnd 9 = .ok (.iconst 1, 1) := by decide +kernel
theorem dX11_firstEnd_10 : decode cX11_firstEnd 10 = .ok (.if_icmp .ne 9, 3) := by decide +kernel
theorem dX11_firstEnd_13 : decode cX11_firstEnd 13 = .ok (.sipush 802, 3) := by decide +kernel
theorem dX11_firstEnd_16 : decode cX11_firstEnd 16 = .ok (.goto 28, 3) := by decide +kernel
theorem dX11_firstEnd_19 : decode cX11_firstEnd 19 = .ok (.iload_n 0, 1) := by decide +kernel
theorem dX11_firstEnd_20 : decode cX11_firstEnd 20 = .ok (.iconst 2, 1) := by decide +kernel
theorem dX11_firstEnd_21 : decode cX11_firstEnd 21 = .ok (.if_icmp .ne 9, 3) := by decide +kernel
theorem dX11_firstEnd_24 : decode cX11_firstEnd 24 = .ok (.sipush 850, 3) := by decide +kernel
theorem dX11_firstEnd_27 : decode cX11_firstEnd 27 = .ok (.goto 17, 3) := by decide +kernel
theorem dX11_firstEnd_30 : decode cX11_firstEnd 30 = .ok (.iload_n 0, 1) := by decide +kernel
theorem dX11_firstEnd_31 : decode cX11_firstEnd 31 = .ok (.iconst 3, 1) := by decide +kernel
theorem dX11_firstEnd_32 : decode cX11_firstEnd 32 = .ok (.if_icmp .ne 9, 3) := by decide +kernel
theorem dX11_firstEnd_35 : decode cX11_firstEnd 35 = .ok (.sipush 898, 3) := by decide +kernel
theorem dX11_firstEnd_38 : decode cX11_firstEnd 38 = .ok (.goto 6, 3) := by decide +kernel
theorem dX11_firstEnd_41 : decode cX11_firstEnd 41 = .ok (.sipush 906, 3) := by decide +kernel
theorem dX11_firstEnd_44 : decode cX11_firstEnd 44 = .ok (.ireturn, 1) := by decide +kernel
theorem dX11_good_0 : decode cX11_good 0 = .ok (.aload_n 0, 1) := by decide +kernel
theorem dX11_good_1 : decode cX11_good 1 = .ok (.getfield 149, 3) := by decide +kernel
theorem dX11_good_4 : decode cX11_good 4 = .ok (.iconst 1, 1) := by decide +kernel
theorem dX11_good_5 : decode cX11_good 5 = .ok (.if_icmp .eq 7, 3) := by decide +kernel
theorem dX11_good_8 : decode cX11_good 8 = .ok (.iconst 1, 1) := by decide +kernel
theorem dX11_good_9 : decode cX11_good 9 = .ok (.goto 4, 3) := by decide +kernel
theorem dX11_good_12 : decode cX11_good 12 = .ok (.iconst 0, 1) := by decide +kernel
theorem dX11_good_13 : decode cX11_good 13 = .ok (.ireturn, 1) := by decide +kernel
theorem dX11_fail_0 : decode cX11_fail 0 = .ok (.aload_n 0, 1) := by decide +kernel
theorem dX11_fail_1 : decode cX11_fail 1 = .ok (.invokevirtual 152, 3) := by decide +kernel
theorem dX11_fail_4 : decode cX11_fail 4 = .ok (.ifCond .ne 4, 3) := by decide +kernel
theorem dX11_fail_7 : decode cX11_fail 7 = .ok (.return_, 1) := by decide +kernel
theorem dX11_fail_8 : decode cX11_fail 8 = .ok (.aload_n 0, 1) := by decide +kernel
theorem dX11_fail_9 : decode cX11_fail 9 = .ok (.iconst 1, 1) := by decide +kernel
theorem dX11_fail_10 : decode cX11_fail 10 = .ok (.putfield 149, 3) := by decide +kernel
theorem dX11_fail_13 : decode cX11_fail 13 = .ok (.aload_n 0, 1) := by decide +kernel
theorem dX11_fail_14 : decode cX11_fail 14 = .ok (.aload_n 0, 1) := by decide +kernel
theorem dX11_fail_15 : decode cX11_fail 15 = .ok (.getfield 20, 3) := by decide +kernel
theorem dX11_fail_18 : decode cX11_fail 18 = .ok (.aload_n 0, 1) := by decide +kernel
theorem dX11_fail_19 : decode cX11_fail 19 = .ok (.getfield 156, 3) := by decide +kernel
theorem dX11_fail_22 : decode cX11_fail 22 = .ok (.iaload, 1) := by decide +kernel
theorem dX11_fail_23 : decode cX11_fail 23 = .ok (.putfield 159, 3) := by decide +kernel
theorem dX11_fail_26 : decode cX11_fail 26 = .ok (.return_, 1) := by decide +kernel
theorem dX11_isWord_0 : decode cX11_isWord 0 = .ok (.aload_n 0, 1) := by decide +kernel
theorem dX11_isWord_1 : decode cX11_isWord 1 = .ok (.invokevirtual 152, 3) := by decide +kernel
theorem dX11_isWord_4 : decode cX11_isWord 4 = .ok (.ifCond .eq 34, 3) := by decide +kernel
theorem dX11_isWord_7 : decode cX11_isWord 7 = .ok (.aload_n 0, 1) := by decide +kernel
theorem dX11_isWord_8 : decode cX11_isWord 8 = .ok (.getfield 16, 3) := by decide +kernel
theorem dX11_isWord_11 : decode cX11_isWord 11 = .ok (.aload_n 0, 1) := by decide +kernel
theorem dX11_isWord_12 : decode cX11_isWord 12 = .ok (.getfield 156, 3) := by decide +kernel
theorem dX11_isWord_15 : decode cX11_isWord 15 = .ok (.iaload, 1) := by decide +kernel
theorem dX11_isWord_16 : decode cX11_isWord 16 = .ok (.iconst 1, 1) := by decide +kernel
theorem dX11_isWord_17 : decode cX11_isWord 17 = .ok (.if_icmp .ne 21, 3) := by decide +kernel
theorem dX11_isWord_20 : decode cX11_isWord 20 = .ok (.aload_n 0, 1) := by decide +kernel
theorem dX11_isWord_21 : decode cX11_isWord 21 = .ok (.getfield 26, 3) := by decide +kernel
theorem dX11_isWord_24 : decode cX11_isWord 24 = .ok (.aload_n 0, 1) := by decide +kernel
theorem dX11_isWord_25 : decode cX11_isWord 25 = .ok (.getfield 156, 3) := by decide +kernel
theorem dX11_isWord_28 : decode cX11_isWord 28 = .ok (.laload, 1) := by decide +kernel
theorem dX11_isWord_29 : decode cX11_isWord 29 = .ok (.lload_n 1, 1) := by decide +kernel
theorem dX11_isWord_30 : decode cX11_isWord 30 = .ok (.lcmp, 1) := by decide +kernel
theorem dX11_isWord_31 : decode cX11_isWord 31 = .ok (.ifCond .ne 7, 3) := by decide +kernel
theorem dX11_isWord_34 : decode cX11_isWord 34 = .ok (.iconst 1, 1) := by decide +kernel
theorem dX11_isWord_35 : decode cX11_isWord 35 = .ok (.goto 4, 3) := by decide +kernel
theorem dX11_isWord_38 : decode cX11_isWord 38 = .ok (.iconst 0, 1) := by decide +kernel
theorem dX11_isWord_39 : decode cX11_isWord 39 = .ok (.ireturn, 1) := by decide +kernel
theorem dX11_isSign_0 : decode cX11_isSign 0 = .ok (.aload_n 0, 1) := by decide +kernel
theorem dX11_isSign_1 : decode cX11_isSign 1 = .ok (.invokevirtual 152, 3) := by decide +kernel
theorem dX11_isSign_4 : decode cX11_isSign 4 = .ok (.ifCond .eq 35, 3) := by decide +kernel
theorem dX11_isSign_7 : decode cX11_isSign 7 = .ok (.aload_n 0, 1) := by decide +kernel
theorem dX11_isSign_8 : decode cX11_isSign 8 = .ok (.getfield 16, 3) := by decide +kernel
theorem dX11_isSign_11 : decode cX11_isSign 11 = .ok (.aload_n 0, 1) := by decide +kernel
theorem dX11_isSign_12 : decode cX11_isSign 12 = .ok (.getfield 156, 3) := by decide +kernel
theorem dX11_isSign_15 : decode cX11_isSign 15 = .ok (.iaload, 1) := by decide +kernel
theorem dX11_isSign_16 : decode cX11_isSign 16 = .ok (.iconst 3, 1) := by decide +kernel
theorem dX11_isSign_17 : decode cX11_isSign 17 = .ok (.if_icmp .ne 22, 3) := by decide +kernel
theorem dX11_isSign_20 : decode cX11_isSign 20 = .ok (.aload_n 0, 1) := by decide +kernel
theorem dX11_isSign_21 : decode cX11_isSign 21 = .ok (.getfield 26, 3) := by decide +kernel
theorem dX11_isSign_24 : decode cX11_isSign 24 = .ok (.aload_n 0, 1) := by decide +kernel
theorem dX11_isSign_25 : decode cX11_isSign 25 = .ok (.getfield 156, 3) := by decide +kernel
theorem dX11_isSign_28 : decode cX11_isSign 28 = .ok (.laload, 1) := by decide +kernel
theorem dX11_isSign_29 : decode cX11_isSign 29 = .ok (.iload_n 1, 1) := by decide +kernel
theorem dX11_isSign_30 : decode cX11_isSign 30 = .ok (.i2l, 1) := by decide +kernel
theorem dX11_isSign_31 : decode cX11_isSign 31 = .ok (.lcmp, 1) := by decide +kernel
theorem dX11_isSign_32 : decode cX11_isSign 32 = .ok (.ifCond .ne 7, 3) := by decide +kernel
theorem dX11_isSign_35 : decode cX11_isSign 35 = .ok (.iconst 1, 1) := by decide +kernel
theorem dX11_isSign_36 : decode cX11_isSign 36 = .ok (.goto 4, 3) := by decide +kernel
theorem dX11_isSign_39 : decode cX11_isSign 39 = .ok (.iconst 0, 1) := by decide +kernel
theorem dX11_isSign_40 : decode cX11_isSign 40 = .ok (.ireturn, 1) := by decide +kernel
theorem dX11_isTaken_0 : decode cX11_isTaken 0 = .ok (.lload_n 0, 1) := by decide +kernel
theorem dX11_isTaken_1 : decode cX11_isTaken 1 = .ok (.ldc2_w 162, 3) := by decide +kernel
theorem dX11_isTaken_4 : decode cX11_isTaken 4 = .ok (.lcmp, 1) := by decide +kernel
theorem dX11_isTaken_5 : decode cX11_isTaken 5 = .ok (.ifCond .eq 75, 3) := by decide +kernel
theorem dX11_isTaken_8 : decode cX11_isTaken 8 = .ok (.lload_n 0, 1) := by decide +kernel
theorem dX11_isTaken_9 : decode cX11_isTaken 9 = .ok (.ldc2_w 164, 3) := by decide +kernel
theorem dX11_isTaken_12 : decode cX11_isTaken 12 = .ok (.lcmp, 1) := by decide +kernel
theorem dX11_isTaken_13 : decode cX11_isTaken 13 = .ok (.ifCond .eq 67, 3) := by decide +kernel
theorem dX11_isTaken_16 : decode cX11_isTaken 16 = .ok (.lload_n 0, 1) := by decide +kernel
theorem dX11_isTaken_17 : decode cX11_isTaken 17 = .ok (.ldc2_w 166, 3) := by decide +kernel
theorem dX11_isTaken_20 : decode cX11_isTaken 20 = .ok (.lcmp, 1) := by decide +kernel
theorem dX11_isTaken_21 : decode cX11_isTaken 21 = .ok (.ifCond .eq 59, 3) := by decide +kernel
theorem dX11_isTaken_24 : decode cX11_isTaken 24 = .ok (.lload_n 0, 1) := by decide +kernel
theorem dX11_isTaken_25 : decode cX11_isTaken 25 = .ok (.ldc2_w 168, 3) := by decide +kernel
theorem dX11_isTaken_28 : decode cX11_isTaken 28 = .ok (.lcmp, 1) := by decide +kernel
theorem dX11_isTaken_29 : decode cX11_isTaken 29 = .ok (.ifCond .eq 51, 3) := by decide +kernel
theorem dX11_isTaken_32 : decode cX11_isTaken 32 = .ok (.lload_n 0, 1) := by decide +kernel
theorem dX11_isTaken_33 : decode cX11_isTaken 33 = .ok (.ldc2_w 170, 3) := by decide +kernel
theorem dX11_isTaken_36 : decode cX11_isTaken 36 = .ok (.lcmp, 1) := by decide +kernel
theorem dX11_isTaken_37 : decode cX11_isTaken 37 = .ok (.ifCond .eq 43, 3) := by decide +kernel
theorem dX11_isTaken_40 : decode cX11_isTaken 40 = .ok (.lload_n 0, 1) := by decide +kernel
theorem dX11_isTaken_41 : decode cX11_isTaken 41 = .ok (.ldc2_w 172, 3) := by decide +kernel
theorem dX11_isTaken_44 : decode cX11_isTaken 44 = .ok (.lcmp, 1) := by decide +kernel
theorem dX11_isTaken_45 : decode cX11_isTaken 45 = .ok (.ifCond .eq 35, 3) := by decide +kernel
theorem dX11_isTaken_48 : decode cX11_isTaken 48 = .ok (.lload_n 0, 1) := by decide +kernel
theorem dX11_isTaken_49 : decode cX11_isTaken 49 = .ok (.ldc2_w 174, 3) := by decide +kernel
theorem dX11_isTaken_52 : decode cX11_isTaken 52 = .ok (.lcmp, 1) := by decide +kernel
theorem dX11_isTaken_53 : decode cX11_isTaken 53 = .ok (.ifCond .eq 27, 3) := by decide +kernel
theorem dX11_isTaken_56 : decode cX11_isTaken 56 = .ok (.lload_n 0, 1) := by decide +kernel
theorem dX11_isTaken_57 : decode cX11_isTaken 57 = .ok (.ldc2_w 176, 3) := by decide +kernel
theorem dX11_isTaken_60 : decode cX11_isTaken 60 = .ok (.lcmp, 1) := by decide +kernel
theorem dX11_isTaken_61 : decode cX11_isTaken 61 = .ok (.ifCond .eq 19, 3) := by decide +kernel
theorem dX11_isTaken_64 : decode cX11_isTaken 64 = .ok (.lload_n 0, 1) := by decide +kernel
theorem dX11_isTaken_65 : decode cX11_isTaken 65 = .ok (.ldc2_w 178, 3) := by decide +kernel
theorem dX11_isTaken_68 : decode cX11_isTaken 68 = .ok (.lcmp, 1) := by decide +kernel
theorem dX11_isTaken_69 : decode cX11_isTaken 69 = .ok (.ifCond .eq 11, 3) := by decide +kernel
theorem dX11_isTaken_72 : decode cX11_isTaken 72 = .ok (.lload_n 0, 1) := by decide +kernel
theorem dX11_isTaken_73 : decode cX11_isTaken 73 = .ok (.ldc2_w 180, 3) := by decide +kernel
theorem dX11_isTaken_76 : decode cX11_isTaken 76 = .ok (.lcmp, 1) := by decide +kernel
theorem dX11_isTaken_77 : decode cX11_isTaken 77 = .ok (.ifCond .ne 7, 3) := by decide +kernel
theorem dX11_isTaken_80 : decode cX11_isTaken 80 = .ok (.iconst 1, 1) := by decide +kernel
theorem dX11_isTaken_81 : decode cX11_isTaken 81 = .ok (.goto 4, 3) := by decide +kernel
theorem dX11_isTaken_84 : decode cX11_isTaken 84 = .ok (.iconst 0, 1) := by decide +kernel
theorem dX11_isTaken_85 : decode cX11_isTaken 85 = .ok (.ireturn, 1) := by decide +kernel
theorem dX11_isName_0 : decode cX11_isName 0 = .ok (.aload_n 0, 1) := by decide +kernel
theorem dX11_isName_1 : decode cX11_isName 1 = .ok (.invokevirtual 152, 3) := by decide +kernel
theorem dX11_isName_4 : decode cX11_isName 4 = .ok (.ifCond .eq 35, 3) := by decide +kernel
theorem dX11_isName_7 : decode cX11_isName 7 = .ok (.aload_n 0, 1) := by decide +kernel
theorem dX11_isName_8 : decode cX11_isName 8 = .ok (.getfield 16, 3) := by decide +kernel
theorem dX11_isName_11 : decode cX11_isName 11 = .ok (.aload_n 0, 1) := by decide +kernel
theorem dX11_isName_12 : decode cX11_isName 12 = .ok (.getfield 156, 3) := by decide +kernel
theorem dX11_isName_15 : decode cX11_isName 15 = .ok (.iaload, 1) := by decide +kernel
theorem dX11_isName_16 : decode cX11_isName 16 = .ok (.iconst 1, 1) := by decide +kernel
theorem dX11_isName_17 : decode cX11_isName 17 = .ok (.if_icmp .ne 22, 3) := by decide +kernel
theorem dX11_isName_20 : decode cX11_isName 20 = .ok (.aload_n 0, 1) := by decide +kernel
theorem dX11_isName_21 : decode cX11_isName 21 = .ok (.getfield 26, 3) := by decide +kernel
theorem dX11_isName_24 : decode cX11_isName 24 = .ok (.aload_n 0, 1) := by decide +kernel
theorem dX11_isName_25 : decode cX11_isName 25 = .ok (.getfield 156, 3) := by decide +kernel
theorem dX11_isName_28 : decode cX11_isName 28 = .ok (.laload, 1) := by decide +kernel
theorem dX11_isName_29 : decode cX11_isName 29 = .ok (.invokestatic 182, 3) := by decide +kernel
theorem dX11_isName_32 : decode cX11_isName 32 = .ok (.ifCond .ne 7, 3) := by decide +kernel
theorem dX11_isName_35 : decode cX11_isName 35 = .ok (.iconst 1, 1) := by decide +kernel
theorem dX11_isName_36 : decode cX11_isName 36 = .ok (.goto 4, 3) := by decide +kernel
theorem dX11_isName_39 : decode cX11_isName 39 = .ok (.iconst 0, 1) := by decide +kernel
theorem dX11_isName_40 : decode cX11_isName 40 = .ok (.ireturn, 1) := by decide +kernel
theorem dX11_need_0 : decode cX11_need 0 = .ok (.aload_n 0, 1) := by decide +kernel
theorem dX11_need_1 : decode cX11_need 1 = .ok (.iload_n 1, 1) := by decide +kernel
theorem dX11_need_2 : decode cX11_need 2 = .ok (.invokevirtual 186, 3) := by decide +kernel
theorem dX11_need_5 : decode cX11_need 5 = .ok (.ifCond .eq 16, 3) := by decide +kernel
theorem dX11_need_8 : decode cX11_need 8 = .ok (.aload_n 0, 1) := by decide +kernel
theorem dX11_need_9 : decode cX11_need 9 = .ok (.dup, 1) := by decide +kernel
theorem dX11_need_10 : decode cX11_need 10 = .ok (.getfield 156, 3) := by decide +kernel
theorem dX11_need_13 : decode cX11_need 13 = .ok (.iconst 1, 1) := by decide +kernel
theorem dX11_need_14 : decode cX11_need 14 = .ok (.iadd, 1) := by decide +kernel
theorem dX11_need_15 : decode cX11_need 15 = .ok (.putfield 156, 3) := by decide +kernel
theorem dX11_need_18 : decode cX11_need 18 = .ok (.goto 7, 3) := by decide +kernel
theorem dX11_need_21 : decode cX11_need 21 = .ok (.aload_n 0, 1) := by decide +kernel
theorem dX11_need_22 : decode cX11_need 22 = .ok (.invokevirtual 189, 3) := by decide +kernel
theorem dX11_need_25 : decode cX11_need 25 = .ok (.return_, 1) := by decide +kernel
theorem dX11_number_0 : decode cX11_number 0 = .ok (.aload_n 0, 1) := by decide +kernel
theorem dX11_number_1 : decode cX11_number 1 = .ok (.invokevirtual 152, 3) := by decide +kernel
theorem dX11_number_4 : decode cX11_number 4 = .ok (.ifCond .eq 46, 3) := by decide +kernel
theorem dX11_number_7 : decode cX11_number 7 = .ok (.aload_n 0, 1) := by decide +kernel
theorem dX11_number_8 : decode cX11_number 8 = .ok (.getfield 16, 3) := by decide +kernel
theorem dX11_number_11 : decode cX11_number 11 = .ok (.aload_n 0, 1) := by decide +kernel
theorem dX11_number_12 : decode cX11_number 12 = .ok (.getfield 156, 3) := by decide +kernel
theorem dX11_number_15 : decode cX11_number 15 = .ok (.iaload, 1) := by decide +kernel
theorem dX11_number_16 : decode cX11_number 16 = .ok (.iconst 2, 1) := by decide +kernel
theorem dX11_number_17 : decode cX11_number 17 = .ok (.if_icmp .ne 33, 3) := by decide +kernel
theorem dX11_number_20 : decode cX11_number 20 = .ok (.aload_n 0, 1) := by decide +kernel
theorem dX11_number_21 : decode cX11_number 21 = .ok (.getfield 26, 3) := by decide +kernel
theorem dX11_number_24 : decode cX11_number 24 = .ok (.aload_n 0, 1) := by decide +kernel
theorem dX11_number_25 : decode cX11_number 25 = .ok (.getfield 156, 3) := by decide +kernel
theorem dX11_number_28 : decode cX11_number 28 = .ok (.laload, 1) := by decide +kernel
theorem dX11_number_29 : decode cX11_number 29 = .ok (.iload_n 1, 1) := by decide +kernel
theorem dX11_number_30 : decode cX11_number 30 = .ok (.i2l, 1) := by decide +kernel
theorem dX11_number_31 : decode cX11_number 31 = .ok (.lcmp, 1) := by decide +kernel
theorem dX11_number_32 : decode cX11_number 32 = .ok (.ifCond .lt 18, 3) := by decide +kernel
theorem dX11_number_35 : decode cX11_number 35 = .ok (.aload_n 0, 1) := by decide +kernel
theorem dX11_number_36 : decode cX11_number 36 = .ok (.getfield 26, 3) := by decide +kernel
theorem dX11_number_39 : decode cX11_number 39 = .ok (.aload_n 0, 1) := by decide +kernel
theorem dX11_number_40 : decode cX11_number 40 = .ok (.getfield 156, 3) := by decide +kernel
theorem dX11_number_43 : decode cX11_number 43 = .ok (.laload, 1) := by decide +kernel
theorem dX11_number_44 : decode cX11_number 44 = .ok (.iload_n 2, 1) := by decide +kernel
theorem dX11_number_45 : decode cX11_number 45 = .ok (.i2l, 1) := by decide +kernel
theorem dX11_number_46 : decode cX11_number 46 = .ok (.lcmp, 1) := by decide +kernel
theorem dX11_number_47 : decode cX11_number 47 = .ok (.ifCond .le 9, 3) := by decide +kernel
theorem dX11_number_50 : decode cX11_number 50 = .ok (.aload_n 0, 1) := by decide +kernel
theorem dX11_number_51 : decode cX11_number 51 = .ok (.invokevirtual 189, 3) := by decide +kernel
theorem dX11_number_54 : decode cX11_number 54 = .ok (.iload_n 1, 1) := by decide +kernel
theorem dX11_number_55 : decode cX11_number 55 = .ok (.ireturn, 1) := by decide +kernel
theorem dX11_number_56 : decode cX11_number 56 = .ok (.aload_n 0, 1) := by decide +kernel
theorem dX11_number_57 : decode cX11_number 57 = .ok (.dup, 1) := by decide +kernel
theorem dX11_number_58 : decode cX11_number 58 = .ok (.getfield 156, 3) := by decide +kernel
theorem dX11_number_61 : decode cX11_number 61 = .ok (.iconst 1, 1) := by decide +kernel
theorem dX11_number_62 : decode cX11_number 62 = .ok (.iadd, 1) := by decide +kernel
theorem dX11_number_63 : decode cX11_number 63 = .ok (.putfield 156, 3) := by decide +kernel
theorem dX11_number_66 : decode cX11_number 66 = .ok (.aload_n 0, 1) := by decide +kernel
theorem dX11_number_67 : decode cX11_number 67 = .ok (.getfield 26, 3) := by decide +kernel
theorem dX11_number_70 : decode cX11_number 70 = .ok (.aload_n 0, 1) := by decide +kernel
theorem dX11_number_71 : decode cX11_number 71 = .ok (.getfield 156, 3) := by decide +kernel
theorem dX11_number_74 : decode cX11_number 74 = .ok (.iconst 1, 1) := by decide +kernel
theorem dX11_number_75 : decode cX11_number 75 = .ok (.isub, 1) := by decide +kernel
theorem dX11_number_76 : decode cX11_number 76 = .ok (.laload, 1) := by decide +kernel
theorem dX11_number_77 : decode cX11_number 77 = .ok (.l2i, 1) := by decide +kernel
theorem dX11_number_78 : decode cX11_number 78 = .ok (.ireturn, 1) := by decide +kernel
theorem dX11_sortHere_0 : decode cX11_sortHere 0 = .ok (.aload_n 0, 1) := by decide +kernel
theorem dX11_sortHere_1 : decode cX11_sortHere 1 = .ok (.ldc2_w 162, 3) := by decide +kernel
theorem dX11_sortHere_4 : decode cX11_sortHere 4 = .ok (.invokevirtual 192, 3) := by decide +kernel
theorem dX11_sortHere_7 : decode cX11_sortHere 7 = .ok (.ifCond .eq 7, 3) := by decide +kernel
theorem dX11_sortHere_10 : decode cX11_sortHere 10 = .ok (.iconst 0, 1) := by decide +kernel
theorem dX11_sortHere_11 : decode cX11_sortHere 11 = .ok (.goto 60, 3) := by decide +kernel
theorem dX11_sortHere_14 : decode cX11_sortHere 14 = .ok (.aload_n 0, 1) := by decide +kernel
theorem dX11_sortHere_15 : decode cX11_sortHere 15 = .ok (.ldc2_w 164, 3) := by decide +kernel
theorem dX11_sortHere_18 : decode cX11_sortHere 18 = .ok (.invokevirtual 192, 3) := by decide +kernel
theorem dX11_sortHere_21 : decode cX11_sortHere 21 = .ok (.ifCond .eq 7, 3) := by decide +kernel
theorem dX11_sortHere_24 : decode cX11_sortHere 24 = .ok (.iconst 1, 1) := by decide +kernel
theorem dX11_sortHere_25 : decode cX11_sortHere 25 = .ok (.goto 46, 3) := by decide +kernel
theorem dX11_sortHere_28 : decode cX11_sortHere 28 = .ok (.aload_n 0, 1) := by decide +kernel
theorem dX11_sortHere_29 : decode cX11_sortHere 29 = .ok (.ldc2_w 166, 3) := by decide +kernel
theorem dX11_sortHere_32 : decode cX11_sortHere 32 = .ok (.invokevirtual 192, 3) := by decide +kernel
theorem dX11_sortHere_35 : decode cX11_sortHere 35 = .ok (.ifCond .eq 7, 3) := by decide +kernel
theorem dX11_sortHere_38 : decode cX11_sortHere 38 = .ok (.iconst 2, 1) := by decide +kernel
theorem dX11_sortHere_39 : decode cX11_sortHere 39 = .ok (.goto 32, 3) := by decide +kernel
theorem dX11_sortHere_42 : decode cX11_sortHere 42 = .ok (.aload_n 0, 1) := by decide +kernel
theorem dX11_sortHere_43 : decode cX11_sortHere 43 = .ok (.ldc2_w 168, 3) := by decide +kernel
theorem dX11_sortHere_46 : decode cX11_sortHere 46 = .ok (.invokevirtual 192, 3) := by decide +kernel
theorem dX11_sortHere_49 : decode cX11_sortHere 49 = .ok (.ifCond .eq 7, 3) := by decide +kernel
theorem dX11_sortHere_52 : decode cX11_sortHere 52 = .ok (.iconst 3, 1) := by decide +kernel
theorem dX11_sortHere_53 : decode cX11_sortHere 53 = .ok (.goto 18, 3) := by decide +kernel
theorem dX11_sortHere_56 : decode cX11_sortHere 56 = .ok (.aload_n 0, 1) := by decide +kernel
theorem dX11_sortHere_57 : decode cX11_sortHere 57 = .ok (.ldc2_w 170, 3) := by decide +kernel
theorem dX11_sortHere_60 : decode cX11_sortHere 60 = .ok (.invokevirtual 192, 3) := by decide +kernel
theorem dX11_sortHere_63 : decode cX11_sortHere 63 = .ok (.ifCond .eq 7, 3) := by decide +kernel
theorem dX11_sortHere_66 : decode cX11_sortHere 66 = .ok (.iconst 4, 1) := by decide +kernel
theorem dX11_sortHere_67 : decode cX11_sortHere 67 = .ok (.goto 4, 3) := by decide +kernel
theorem dX11_sortHere_70 : decode cX11_sortHere 70 = .ok (.iconst (-1), 1) := by decide +kernel
theorem dX11_sortHere_71 : decode cX11_sortHere 71 = .ok (.ireturn, 1) := by decide +kernel
theorem dX11_parts_0 : decode cX11_parts 0 = .ok (.aload_n 0, 1) := by decide +kernel
theorem dX11_parts_1 : decode cX11_parts 1 = .ok (.iconst 0, 1) := by decide +kernel
theorem dX11_parts_2 : decode cX11_parts 2 = .ok (.putfield 156, 3) := by decide +kernel
theorem dX11_parts_5 : decode cX11_parts 5 = .ok (.aload_n 0, 1) := by decide +kernel
theorem dX11_parts_6 : decode cX11_parts 6 = .ok (.iconst 0, 1) := by decide +kernel
theorem dX11_parts_7 : decode cX11_parts 7 = .ok (.putfield 149, 3) := by decide +kernel
theorem dX11_parts_10 : decode cX11_parts 10 = .ok (.aload_n 0, 1) := by decide +kernel
theorem dX11_parts_11 : decode cX11_parts 11 = .ok (.iconst (-1), 1) := by decide +kernel
theorem dX11_parts_12 : decode cX11_parts 12 = .ok (.putfield 159, 3) := by decide +kernel
theorem dX11_parts_15 : decode cX11_parts 15 = .ok (.iconst 0, 1) := by decide +kernel
theorem dX11_parts_16 : decode cX11_parts 16 = .ok (.istore_n 1, 1) := by decide +kernel
theorem dX11_parts_17 : decode cX11_parts 17 = .ok (.iload_n 1, 1) := by decide +kernel
theorem dX11_parts_18 : decode cX11_parts 18 = .ok (.iconst 5, 1) := by decide +kernel
theorem dX11_parts_19 : decode cX11_parts 19 = .ok (.if_icmp .ge 23, 3) := by decide +kernel
theorem dX11_parts_22 : decode cX11_parts 22 = .ok (.aload_n 0, 1) := by decide +kernel
theorem dX11_parts_23 : decode cX11_parts 23 = .ok (.getfield 34, 3) := by decide +kernel
theorem dX11_parts_26 : decode cX11_parts 26 = .ok (.iconst 5, 1) := by decide +kernel
theorem dX11_parts_27 : decode cX11_parts 27 = .ok (.aload_n 0, 1) := by decide +kernel
theorem dX11_parts_28 : decode cX11_parts 28 = .ok (.getfield 195, 3) := by decide +kernel
theorem dX11_parts_31 : decode cX11_parts 31 = .ok (.imul, 1) := by decide +kernel
theorem dX11_parts_32 : decode cX11_parts 32 = .ok (.iload_n 1, 1) := by decide +kernel
theorem dX11_parts_33 : decode cX11_parts 33 = .ok (.iadd, 1) := by decide +kernel
theorem dX11_parts_34 : decode cX11_parts 34 = .ok (.iconst 0, 1) := by decide +kernel
theorem dX11_parts_35 : decode cX11_parts 35 = .ok (.iastore, 1) := by decide +kernel
theorem dX11_parts_36 : decode cX11_parts 36 = .ok (.iinc 1 1, 3) := by decide +kernel
theorem dX11_parts_39 : decode cX11_parts 39 = .ok (.goto (-22), 3) := by decide +kernel
theorem dX11_parts_42 : decode cX11_parts 42 = .ok (.aload_n 0, 1) := by decide +kernel
theorem dX11_parts_43 : decode cX11_parts 43 = .ok (.invokevirtual 152, 3) := by decide +kernel
theorem dX11_parts_46 : decode cX11_parts 46 = .ok (.ifCond .eq 63, 3) := by decide +kernel
theorem dX11_parts_49 : decode cX11_parts 49 = .ok (.aload_n 0, 1) := by decide +kernel
theorem dX11_parts_50 : decode cX11_parts 50 = .ok (.getfield 16, 3) := by decide +kernel
theorem dX11_parts_53 : decode cX11_parts 53 = .ok (.aload_n 0, 1) := by decide +kernel
theorem dX11_parts_54 : decode cX11_parts 54 = .ok (.getfield 156, 3) := by decide +kernel
theorem dX11_parts_57 : decode cX11_parts 57 = .ok (.iaload, 1) := by decide +kernel
theorem dX11_parts_58 : decode cX11_parts 58 = .ok (.ifCond .eq 51, 3) := by decide +kernel
theorem dX11_parts_61 : decode cX11_parts 61 = .ok (.aload_n 0, 1) := by decide +kernel
theorem dX11_parts_62 : decode cX11_parts 62 = .ok (.invokevirtual 198, 3) := by decide +kernel
theorem dX11_parts_65 : decode cX11_parts 65 = .ok (.istore_n 1, 1) := by decide +kernel
theorem dX11_parts_66 : decode cX11_parts 66 = .ok (.iload_n 1, 1) := by decide +kernel
theorem dX11_parts_67 : decode cX11_parts 67 = .ok (.iconst (-1), 1) := by decide +kernel
theorem dX11_parts_68 : decode cX11_parts 68 = .ok (.if_icmp .eq 11, 3) := by decide +kernel
theorem dX11_parts_71 : decode cX11_parts 71 = .ok (.aload_n 0, 1) := by decide +kernel
theorem dX11_parts_72 : decode cX11_parts 72 = .ok (.iload_n 1, 1) := by decide +kernel
theorem dX11_parts_73 : decode cX11_parts 73 = .ok (.invokevirtual 202, 3) := by decide +kernel
theorem dX11_parts_76 : decode cX11_parts 76 = .ok (.goto 24, 3) := by decide +kernel
theorem dX11_parts_79 : decode cX11_parts 79 = .ok (.aload_n 0, 1) := by decide +kernel
theorem dX11_parts_80 : decode cX11_parts 80 = .ok (.ldc2_w 172, 3) := by decide +kernel
theorem dX11_parts_83 : decode cX11_parts 83 = .ok (.invokevirtual 192, 3) := by decide +kernel
theorem dX11_parts_86 : decode cX11_parts 86 = .ok (.ifCond .eq 10, 3) := by decide +kernel
theorem dX11_parts_89 : decode cX11_parts 89 = .ok (.aload_n 0, 1) := by decide +kernel
theorem dX11_parts_90 : decode cX11_parts 90 = .ok (.invokevirtual 204, 3) := by decide +kernel
theorem dX11_parts_93 : decode cX11_parts 93 = .ok (.goto 7, 3) := by decide +kernel
theorem dX11_parts_96 : decode cX11_parts 96 = .ok (.aload_n 0, 1) := by decide +kernel
theorem dX11_parts_97 : decode cX11_parts 97 = .ok (.invokevirtual 189, 3) := by decide +kernel
theorem dX11_parts_100 : decode cX11_parts 100 = .ok (.aload_n 0, 1) := by decide +kernel
theorem dX11_parts_101 : decode cX11_parts 101 = .ok (.bipush 59, 2) := by decide +kernel
theorem dX11_parts_103 : decode cX11_parts 103 = .ok (.invokevirtual 207, 3) := by decide +kernel
theorem dX11_parts_106 : decode cX11_parts 106 = .ok (.goto (-64), 3) := by decide +kernel
theorem dX11_parts_109 : decode cX11_parts 109 = .ok (.return_, 1) := by decide +kernel
theorem dX11_part_0 : decode cX11_part 0 = .ok (.aload_n 0, 1) := by decide +kernel
theorem dX11_part_1 : decode cX11_part 1 = .ok (.dup, 1) := by decide +kernel
theorem dX11_part_2 : decode cX11_part 2 = .ok (.getfield 156, 3) := by decide +kernel
theorem dX11_part_5 : decode cX11_part 5 = .ok (.iconst 1, 1) := by decide +kernel
theorem dX11_part_6 : decode cX11_part 6 = .ok (.iadd, 1) := by decide +kernel
theorem dX11_part_7 : decode cX11_part 7 = .ok (.putfield 156, 3) := by decide +kernel
theorem dX11_part_10 : decode cX11_part 10 = .ok (.aload_n 0, 1) := by decide +kernel
theorem dX11_part_11 : decode cX11_part 11 = .ok (.invokevirtual 210, 3) := by decide +kernel
theorem dX11_part_14 : decode cX11_part 14 = .ok (.ifCond .ne 8, 3) := by decide +kernel
theorem dX11_part_17 : decode cX11_part 17 = .ok (.aload_n 0, 1) := by decide +kernel
theorem dX11_part_18 : decode cX11_part 18 = .ok (.invokevirtual 189, 3) := by decide +kernel
theorem dX11_part_21 : decode cX11_part 21 = .ok (.return_, 1) := by decide +kernel
theorem dX11_part_22 : decode cX11_part 22 = .ok (.aload_n 0, 1) := by decide +kernel
theorem dX11_part_23 : decode cX11_part 23 = .ok (.getfield 34, 3) := by decide +kernel
theorem dX11_part_26 : decode cX11_part 26 = .ok (.iconst 5, 1) := by decide +kernel
theorem dX11_part_27 : decode cX11_part 27 = .ok (.aload_n 0, 1) := by decide +kernel
theorem dX11_part_28 : decode cX11_part 28 = .ok (.getfield 195, 3) := by decide +kernel
theorem dX11_part_31 : decode cX11_part 31 = .ok (.imul, 1) := by decide +kernel
theorem dX11_part_32 : decode cX11_part 32 = .ok (.iload_n 1, 1) := by decide +kernel
theorem dX11_part_33 : decode cX11_part 33 = .ok (.iadd, 1) := by decide +kernel
theorem dX11_part_34 : decode cX11_part 34 = .ok (.iaload, 1) := by decide +kernel
theorem dX11_part_35 : decode cX11_part 35 = .ok (.istore_n 2, 1) := by decide +kernel
theorem dX11_part_36 : decode cX11_part 36 = .ok (.iload_n 2, 1) := by decide +kernel
theorem dX11_part_37 : decode cX11_part 37 = .ok (.iload_n 1, 1) := by decide +kernel
theorem dX11_part_38 : decode cX11_part 38 = .ok (.invokestatic 213, 3) := by decide +kernel
theorem dX11_part_41 : decode cX11_part 41 = .ok (.if_icmp .ge 7, 3) := by decide +kernel
theorem dX11_part_44 : decode cX11_part 44 = .ok (.iconst 1, 1) := by decide +kernel
theorem dX11_part_45 : decode cX11_part 45 = .ok (.goto 4, 3) := by decide +kernel
theorem dX11_part_48 : decode cX11_part 48 = .ok (.iconst 0, 1) := by decide +kernel
theorem dX11_part_49 : decode cX11_part 49 = .ok (.istore_n 3, 1) := by decide +kernel
theorem dX11_part_50 : decode cX11_part 50 = .ok (.iload_n 3, 1) := by decide +kernel
theorem dX11_part_51 : decode cX11_part 51 = .ok (.ifCond .ne 28, 3) := by decide +kernel
theorem dX11_part_54 : decode cX11_part 54 = .ok (.aload_n 0, 1) := by decide +kernel
theorem dX11_part_55 : decode cX11_part 55 = .ok (.getfield 149, 3) := by decide +kernel
theorem dX11_part_58 : decode cX11_part 58 = .ok (.ifCond .ne 21, 3) := by decide +kernel
theorem dX11_part_61 : decode cX11_part 61 = .ok (.aload_n 0, 1) := by decide +kernel
theorem dX11_part_62 : decode cX11_part 62 = .ok (.iconst 2, 1) := by decide +kernel
theorem dX11_part_63 : decode cX11_part 63 = .ok (.putfield 149, 3) := by decide +kernel
theorem dX11_part_66 : decode cX11_part 66 = .ok (.aload_n 0, 1) := by decide +kernel
theorem dX11_part_67 : decode cX11_part 67 = .ok (.aload_n 0, 1) := by decide +kernel
theorem dX11_part_68 : decode cX11_part 68 = .ok (.getfield 20, 3) := by decide +kernel
theorem dX11_part_71 : decode cX11_part 71 = .ok (.aload_n 0, 1) := by decide +kernel
theorem dX11_part_72 : decode cX11_part 72 = .ok (.getfield 156, 3) := by decide +kernel
theorem dX11_part_75 : decode cX11_part 75 = .ok (.iaload, 1) := by decide +kernel
theorem dX11_part_76 : decode cX11_part 76 = .ok (.putfield 159, 3) := by decide +kernel
theorem dX11_part_79 : decode cX11_part 79 = .ok (.bipush 116, 2) := by decide +kernel
theorem dX11_part_81 : decode cX11_part 81 = .ok (.aload_n 0, 1) := by decide +kernel
theorem dX11_part_82 : decode cX11_part 82 = .ok (.getfield 195, 3) := by decide +kernel
theorem dX11_part_85 : decode cX11_part 85 = .ok (.imul, 1) := by decide +kernel
theorem dX11_part_86 : decode cX11_part 86 = .ok (.iload_n 1, 1) := by decide +kernel
theorem dX11_part_87 : decode cX11_part 87 = .ok (.invokestatic 216, 3) := by decide +kernel
theorem dX11_part_90 : decode cX11_part 90 = .ok (.iadd, 1) := by decide +kernel
theorem dX11_part_91 : decode cX11_part 91 = .ok (.iload_n 3, 1) := by decide +kernel
theorem dX11_part_92 : decode cX11_part 92 = .ok (.ifCond .eq 7, 3) := by decide +kernel
theorem dX11_part_95 : decode cX11_part 95 = .ok (.iload_n 2, 1) := by decide +kernel
theorem dX11_part_96 : decode cX11_part 96 = .ok (.goto 4, 3) := by decide +kernel
theorem dX11_part_99 : decode cX11_part 99 = .ok (.iconst 0, 1) := by decide +kernel
theorem dX11_part_100 : decode cX11_part 100 = .ok (.iadd, 1) := by decide +kernel
theorem dX11_part_101 : decode cX11_part 101 = .ok (.istore 4, 2) := by decide +kernel
theorem dX11_part_103 : decode cX11_part 103 = .ok (.iload_n 3, 1) := by decide +kernel
theorem dX11_part_104 : decode cX11_part 104 = .ok (.ifCond .eq 89, 3) := by decide +kernel
theorem dX11_part_107 : decode cX11_part 107 = .ok (.aload_n 0, 1) := by decide +kernel
theorem dX11_part_108 : decode cX11_part 108 = .ok (.getfield 34, 3) := by decide +kernel
theorem dX11_part_111 : decode cX11_part 111 = .ok (.iconst 5, 1) := by decide +kernel
theorem dX11_part_112 : decode cX11_part 112 = .ok (.aload_n 0, 1) := by decide +kernel
theorem dX11_part_113 : decode cX11_part 113 = .ok (.getfield 195, 3) := by decide +kernel
theorem dX11_part_116 : decode cX11_part 116 = .ok (.imul, 1) := by decide +kernel
theorem dX11_part_117 : decode cX11_part 117 = .ok (.iload_n 1, 1) := by decide +kernel
theorem dX11_part_118 : decode cX11_part 118 = .ok (.iadd, 1) := by decide +kernel
theorem dX11_part_119 : decode cX11_part 119 = .ok (.dup2, 1) := by decide +kernel
theorem dX11_part_120 : decode cX11_part 120 = .ok (.iaload, 1) := by decide +kernel
theorem dX11_part_121 : decode cX11_part 121 = .ok (.iconst 1, 1) := by decide +kernel
theorem dX11_part_122 : decode cX11_part 122 = .ok (.iadd, 1) := by decide +kernel
theorem dX11_part_123 : decode cX11_part 123 = .ok (.iastore, 1) := by decide +kernel
theorem dX11_part_124 : decode cX11_part 124 = .ok (.aload_n 0, 1) := by decide +kernel
theorem dX11_part_125 : decode cX11_part 125 = .ok (.getfield 37, 3) := by decide +kernel
theorem dX11_part_128 : decode cX11_part 128 = .ok (.iload 4, 2) := by decide +kernel
theorem dX11_part_130 : decode cX11_part 130 = .ok (.aload_n 0, 1) := by decide +kernel
theorem dX11_part_131 : decode cX11_part 131 = .ok (.getfield 23, 3) := by decide +kernel
theorem dX11_part_134 : decode cX11_part 134 = .ok (.aload_n 0, 1) := by decide +kernel
theorem dX11_part_135 : decode cX11_part 135 = .ok (.getfield 156, 3) := by decide +kernel
theorem dX11_part_138 : decode cX11_part 138 = .ok (.iaload, 1) := by decide +kernel
theorem dX11_part_139 : decode cX11_part 139 = .ok (.iastore, 1) := by decide +kernel
theorem dX11_part_140 : decode cX11_part 140 = .ok (.iconst 0, 1) := by decide +kernel
theorem dX11_part_141 : decode cX11_part 141 = .ok (.istore 5, 2) := by decide +kernel
theorem dX11_part_143 : decode cX11_part 143 = .ok (.iload 5, 2) := by decide +kernel
theorem dX11_part_145 : decode cX11_part 145 = .ok (.aload_n 0, 1) := by decide +kernel
theorem dX11_part_146 : decode cX11_part 146 = .ok (.getfield 23, 3) := by decide +kernel
theorem dX11_part_149 : decode cX11_part 149 = .ok (.aload_n 0, 1) := by decide +kernel
theorem dX11_part_150 : decode cX11_part 150 = .ok (.getfield 156, 3) := by decide +kernel
theorem dX11_part_153 : decode cX11_part 153 = .ok (.iaload, 1) := by decide +kernel
theorem dX11_part_154 : decode cX11_part 154 = .ok (.if_icmp .ge 39, 3) := by decide +kernel
theorem dX11_part_157 : decode cX11_part 157 = .ok (.aload_n 0, 1) := by decide +kernel
theorem dX11_part_158 : decode cX11_part 158 = .ok (.getfield 52, 3) := by decide +kernel
theorem dX11_part_161 : decode cX11_part 161 = .ok (.bipush 8, 2) := by decide +kernel
theorem dX11_part_163 : decode cX11_part 163 = .ok (.iload 4, 2) := by decide +kernel
theorem dX11_part_165 : decode cX11_part 165 = .ok (.imul, 1) := by decide +kernel
theorem dX11_part_166 : decode cX11_part 166 = .ok (.iload 5, 2) := by decide +kernel
theorem dX11_part_168 : decode cX11_part 168 = .ok (.iadd, 1) := by decide +kernel
theorem dX11_part_169 : decode cX11_part 169 = .ok (.aload_n 0, 1) := by decide +kernel
theorem dX11_part_170 : decode cX11_part 170 = .ok (.getfield 13, 3) := by decide +kernel
theorem dX11_part_173 : decode cX11_part 173 = .ok (.aload_n 0, 1) := by decide +kernel
theorem dX11_part_174 : decode cX11_part 174 = .ok (.getfield 20, 3) := by decide +kernel
theorem dX11_part_177 : decode cX11_part 177 = .ok (.aload_n 0, 1) := by decide +kernel
theorem dX11_part_178 : decode cX11_part 178 = .ok (.getfield 156, 3) := by decide +kernel
theorem dX11_part_181 : decode cX11_part 181 = .ok (.iaload, 1) := by decide +kernel
theorem dX11_part_182 : decode cX11_part 182 = .ok (.iload 5, 2) := by decide +kernel
theorem dX11_part_184 : decode cX11_part 184 = .ok (.iadd, 1) := by decide +kernel
theorem dX11_part_185 : decode cX11_part 185 = .ok (.baload, 1) := by decide +kernel
theorem dX11_part_186 : decode cX11_part 186 = .ok (.bastore, 1) := by decide +kernel
theorem dX11_part_187 : decode cX11_part 187 = .ok (.iinc 5 1, 3) := by decide +kernel
theorem dX11_part_190 : decode cX11_part 190 = .ok (.goto (-47), 3) := by decide +kernel
theorem dX11_part_193 : decode cX11_part 193 = .ok (.aload_n 0, 1) := by decide +kernel
theorem dX11_part_194 : decode cX11_part 194 = .ok (.dup, 1) := by decide +kernel
theorem dX11_part_195 : decode cX11_part 195 = .ok (.getfield 156, 3) := by decide +kernel
theorem dX11_part_198 : decode cX11_part 198 = .ok (.iconst 1, 1) := by decide +kernel
theorem dX11_part_199 : decode cX11_part 199 = .ok (.iadd, 1) := by decide +kernel
theorem dX11_part_200 : decode cX11_part 200 = .ok (.putfield 156, 3) := by decide +kernel
theorem dX11_part_203 : decode cX11_part 203 = .ok (.iload_n 1, 1) := by decide +kernel
theorem dX11_part_204 : decode cX11_part 204 = .ok (.ifCond .eq 9, 3) := by decide +kernel
theorem dX11_part_207 : decode cX11_part 207 = .ok (.iload_n 1, 1) := by decide +kernel
theorem dX11_part_208 : decode cX11_part 208 = .ok (.iconst 3, 1) := by decide +kernel
theorem dX11_part_209 : decode cX11_part 209 = .ok (.if_icmp .eq 4, 3) := by decide +kernel
theorem dX11_part_212 : decode cX11_part 212 = .ok (.return_, 1) := by decide +kernel
theorem dX11_part_213 : decode cX11_part 213 = .ok (.aload_n 0, 1) := by decide +kernel
theorem dX11_part_214 : decode cX11_part 214 = .ok (.iload_n 1, 1) := by decide +kernel
theorem dX11_part_215 : decode cX11_part 215 = .ok (.ifCond .ne 7, 3) := by decide +kernel
theorem dX11_part_218 : decode cX11_part 218 = .ok (.iconst 1, 1) := by decide +kernel
theorem dX11_part_219 : decode cX11_part 219 = .ok (.goto 4, 3) := by decide +kernel
theorem dX11_part_222 : decode cX11_part 222 = .ok (.iconst 2, 1) := by decide +kernel
theorem dX11_part_223 : decode cX11_part 223 = .ok (.iload_n 1, 1) := by decide +kernel
theorem dX11_part_224 : decode cX11_part 224 = .ok (.ifCond .ne 8, 3) := by decide +kernel
theorem dX11_part_227 : decode cX11_part 227 = .ok (.bipush 20, 2) := by decide +kernel
theorem dX11_part_229 : decode cX11_part 229 = .ok (.goto 5, 3) := by decide +kernel
theorem dX11_part_232 : decode cX11_part 232 = .ok (.bipush 100, 2) := by decide +kernel
theorem dX11_part_234 : decode cX11_part 234 = .ok (.invokevirtual 219, 3) := by decide +kernel
theorem dX11_part_237 : decode cX11_part 237 = .ok (.istore 5, 2) := by decide +kernel
theorem dX11_part_239 : decode cX11_part 239 = .ok (.aload_n 0, 1) := by decide +kernel
theorem dX11_part_240 : decode cX11_part 240 = .ok (.iconst 1, 1) := by decide +kernel
theorem dX11_part_241 : decode cX11_part 241 = .ok (.iload_n 1, 1) := by decide +kernel
theorem dX11_part_242 : decode cX11_part 242 = .ok (.ifCond .ne 8, 3) := by decide +kernel
theorem dX11_part_245 : decode cX11_part 245 = .ok (.bipush 20, 2) := by decide +kernel
theorem dX11_part_247 : decode cX11_part 247 = .ok (.goto 7, 3) := by decide +kernel
theorem dX11_part_250 : decode cX11_part 250 = .ok (.iload 5, 2) := by decide +kernel
theorem dX11_part_252 : decode cX11_part 252 = .ok (.iconst 1, 1) := by decide +kernel
theorem dX11_part_253 : decode cX11_part 253 = .ok (.isub, 1) := by decide +kernel
theorem dX11_part_254 : decode cX11_part 254 = .ok (.invokevirtual 219, 3) := by decide +kernel
theorem dX11_part_257 : decode cX11_part 257 = .ok (.istore 6, 2) := by decide +kernel
theorem dX11_part_259 : decode cX11_part 259 = .ok (.iconst 0, 1) := by decide +kernel
theorem dX11_part_260 : decode cX11_part 260 = .ok (.istore 7, 2) := by decide +kernel
theorem dX11_part_262 : decode cX11_part 262 = .ok (.iconst 0, 1) := by decide +kernel
theorem dX11_part_263 : decode cX11_part 263 = .ok (.istore 8, 2) := by decide +kernel
theorem dX11_part_265 : decode cX11_part 265 = .ok (.iload_n 1, 1) := by decide +kernel
theorem dX11_part_266 : decode cX11_part 266 = .ok (.ifCond .ne 65, 3) := by decide +kernel
theorem dX11_part_269 : decode cX11_part 269 = .ok (.iload 7, 2) := by decide +kernel
theorem dX11_part_271 : decode cX11_part 271 = .ok (.bipush 6, 2) := by decide +kernel
theorem dX11_part_273 : decode cX11_part 273 = .ok (.if_icmp .ge 58, 3) := by decide +kernel
theorem dX11_part_276 : decode cX11_part 276 = .ok (.aload_n 0, 1) := by decide +kernel
theorem dX11_part_277 : decode cX11_part 277 = .ok (.ldc2_w 174, 3) := by decide +kernel
theorem dX11_part_280 : decode cX11_part 280 = .ok (.invokevirtual 192, 3) := by decide +kernel
theorem dX11_part_283 : decode cX11_part 283 = .ok (.ifCond .ne 13, 3) := by decide +kernel
theorem dX11_part_286 : decode cX11_part 286 = .ok (.aload_n 0, 1) := by decide +kernel
theorem dX11_part_287 : decode cX11_part 287 = .ok (.ldc2_w 176, 3) := by decide +kernel
theorem dX11_part_290 : decode cX11_part 290 = .ok (.invokevirtual 192, 3) := by decide +kernel
theorem dX11_part_293 : decode cX11_part 293 = .ok (.ifCond .eq 38, 3) := by decide +kernel
theorem dX11_part_296 : decode cX11_part 296 = .ok (.aload_n 0, 1) := by decide +kernel
theorem dX11_part_297 : decode cX11_part 297 = .ok (.ldc2_w 176, 3) := by decide +kernel
theorem dX11_part_300 : decode cX11_part 300 = .ok (.invokevirtual 192, 3) := by decide +kernel
theorem dX11_part_303 : decode cX11_part 303 = .ok (.ifCond .eq 12, 3) := by decide +kernel
theorem dX11_part_306 : decode cX11_part 306 = .ok (.iload 8, 2) := by decide +kernel
theorem dX11_part_308 : decode cX11_part 308 = .ok (.iconst 1, 1) := by decide +kernel
theorem dX11_part_309 : decode cX11_part 309 = .ok (.iload 7, 2) := by decide +kernel
theorem dX11_part_311 : decode cX11_part 311 = .ok (.ishl, 1) := by decide +kernel
theorem dX11_part_312 : decode cX11_part 312 = .ok (.ior, 1) := by decide +kernel
theorem dX11_part_313 : decode cX11_part 313 = .ok (.istore 8, 2) := by decide +kernel
theorem dX11_part_315 : decode cX11_part 315 = .ok (.iinc 7 1, 3) := by decide +kernel
theorem dX11_part_318 : decode cX11_part 318 = .ok (.aload_n 0, 1) := by decide +kernel
theorem dX11_part_319 : decode cX11_part 319 = .ok (.dup, 1) := by decide +kernel
theorem dX11_part_320 : decode cX11_part 320 = .ok (.getfield 156, 3) := by decide +kernel
theorem dX11_part_323 : decode cX11_part 323 = .ok (.iconst 1, 1) := by decide +kernel
theorem dX11_part_324 : decode cX11_part 324 = .ok (.iadd, 1) := by decide +kernel
theorem dX11_part_325 : decode cX11_part 325 = .ok (.putfield 156, 3) := by decide +kernel
theorem dX11_part_328 : decode cX11_part 328 = .ok (.goto (-63), 3) := by decide +kernel
theorem dX11_part_331 : decode cX11_part 331 = .ok (.iload_n 3, 1) := by decide +kernel
theorem dX11_part_332 : decode cX11_part 332 = .ok (.ifCond .ne 4, 3) := by decide +kernel
theorem dX11_part_335 : decode cX11_part 335 = .ok (.return_, 1) := by decide +kernel
theorem dX11_part_336 : decode cX11_part 336 = .ok (.aload_n 0, 1) := by decide +kernel
theorem dX11_part_337 : decode cX11_part 337 = .ok (.getfield 40, 3) := by decide +kernel
theorem dX11_part_340 : decode cX11_part 340 = .ok (.iload 4, 2) := by decide +kernel
theorem dX11_part_342 : decode cX11_part 342 = .ok (.iload 5, 2) := by decide +kernel
theorem dX11_part_344 : decode cX11_part 344 = .ok (.iastore, 1) := by decide +kernel
theorem dX11_part_345 : decode cX11_part 345 = .ok (.aload_n 0, 1) := by decide +kernel
theorem dX11_part_346 : decode cX11_part 346 = .ok (.getfield 43, 3) := by decide +kernel
theorem dX11_part_349 : decode cX11_part 349 = .ok (.iload 4, 2) := by decide +kernel
theorem dX11_part_351 : decode cX11_part 351 = .ok (.iload 6, 2) := by decide +kernel
theorem dX11_part_353 : decode cX11_part 353 = .ok (.iastore, 1) := by decide +kernel
theorem dX11_part_354 : decode cX11_part 354 = .ok (.aload_n 0, 1) := by decide +kernel
theorem dX11_part_355 : decode cX11_part 355 = .ok (.getfield 46, 3) := by decide +kernel
theorem dX11_part_358 : decode cX11_part 358 = .ok (.iload 4, 2) := by decide +kernel
theorem dX11_part_360 : decode cX11_part 360 = .ok (.iload 7, 2) := by decide +kernel
theorem dX11_part_362 : decode cX11_part 362 = .ok (.iastore, 1) := by decide +kernel
theorem dX11_part_363 : decode cX11_part 363 = .ok (.aload_n 0, 1) := by decide +kernel
theorem dX11_part_364 : decode cX11_part 364 = .ok (.getfield 49, 3) := by decide +kernel
theorem dX11_part_367 : decode cX11_part 367 = .ok (.iload 4, 2) := by decide +kernel
theorem dX11_part_369 : decode cX11_part 369 = .ok (.iload 8, 2) := by decide +kernel
theorem dX11_part_371 : decode cX11_part 371 = .ok (.iastore, 1) := by decide +kernel
theorem dX11_part_372 : decode cX11_part 372 = .ok (.return_, 1) := by decide +kernel
theorem dX11_wire_0 : decode cX11_wire 0 = .ok (.aload_n 0, 1) := by decide +kernel
theorem dX11_wire_1 : decode cX11_wire 1 = .ok (.dup, 1) := by decide +kernel
theorem dX11_wire_2 : decode cX11_wire 2 = .ok (.getfield 156, 3) := by decide +kernel
theorem dX11_wire_5 : decode cX11_wire 5 = .ok (.iconst 1, 1) := by decide +kernel
theorem dX11_wire_6 : decode cX11_wire 6 = .ok (.iadd, 1) := by decide +kernel
theorem dX11_wire_7 : decode cX11_wire 7 = .ok (.putfield 156, 3) := by decide +kernel
theorem dX11_wire_10 : decode cX11_wire 10 = .ok (.iconst 0, 1) := by decide +kernel
theorem dX11_wire_11 : decode cX11_wire 11 = .ok (.istore_n 1, 1) := by decide +kernel
theorem dX11_wire_12 : decode cX11_wire 12 = .ok (.aload_n 0, 1) := by decide +kernel
theorem dX11_wire_13 : decode cX11_wire 13 = .ok (.invokevirtual 152, 3) := by decide +kernel
theorem dX11_wire_16 : decode cX11_wire 16 = .ok (.ifCond .eq 27, 3) := by decide +kernel
theorem dX11_wire_19 : decode cX11_wire 19 = .ok (.iload_n 1, 1) := by decide +kernel
theorem dX11_wire_20 : decode cX11_wire 20 = .ok (.iconst 2, 1) := by decide +kernel
theorem dX11_wire_21 : decode cX11_wire 21 = .ok (.if_icmp .lt 12, 3) := by decide +kernel
theorem dX11_wire_24 : decode cX11_wire 24 = .ok (.aload_n 0, 1) := by decide +kernel
theorem dX11_wire_25 : decode cX11_wire 25 = .ok (.bipush 59, 2) := by decide +kernel
theorem dX11_wire_27 : decode cX11_wire 27 = .ok (.invokevirtual 186, 3) := by decide +kernel
theorem dX11_wire_30 : decode cX11_wire 30 = .ok (.ifCond .ne 13, 3) := by decide +kernel
theorem dX11_wire_33 : decode cX11_wire 33 = .ok (.aload_n 0, 1) := by decide +kernel
theorem dX11_wire_34 : decode cX11_wire 34 = .ok (.invokevirtual 223, 3) := by decide +kernel
theorem dX11_wire_37 : decode cX11_wire 37 = .ok (.iinc 1 1, 3) := by decide +kernel
theorem dX11_wire_40 : decode cX11_wire 40 = .ok (.goto (-28), 3) := by decide +kernel
theorem dX11_wire_43 : decode cX11_wire 43 = .ok (.return_, 1) := by decide +kernel
theorem dX11_pin_0 : decode cX11_pin 0 = .ok (.aload_n 0, 1) := by decide +kernel
theorem dX11_pin_1 : decode cX11_pin 1 = .ok (.ldc2_w 178, 3) := by decide +kernel
theorem dX11_pin_4 : decode cX11_pin 4 = .ok (.invokevirtual 192, 3) := by decide +kernel
theorem dX11_pin_7 : decode cX11_pin 7 = .ok (.ifCond .ne 13, 3) := by decide +kernel
theorem dX11_pin_10 : decode cX11_pin 10 = .ok (.aload_n 0, 1) := by decide +kernel
theorem dX11_pin_11 : decode cX11_pin 11 = .ok (.ldc2_w 180, 3) := by decide +kernel
theorem dX11_pin_14 : decode cX11_pin 14 = .ok (.invokevirtual 192, 3) := by decide +kernel
theorem dX11_pin_17 : decode cX11_pin 17 = .ok (.ifCond .eq 14, 3) := by decide +kernel
theorem dX11_pin_20 : decode cX11_pin 20 = .ok (.aload_n 0, 1) := by decide +kernel
theorem dX11_pin_21 : decode cX11_pin 21 = .ok (.dup, 1) := by decide +kernel
theorem dX11_pin_22 : decode cX11_pin 22 = .ok (.getfield 156, 3) := by decide +kernel
theorem dX11_pin_25 : decode cX11_pin 25 = .ok (.iconst 1, 1) := by decide +kernel
theorem dX11_pin_26 : decode cX11_pin 26 = .ok (.iadd, 1) := by decide +kernel
theorem dX11_pin_27 : decode cX11_pin 27 = .ok (.putfield 156, 3) := by decide +kernel
theorem dX11_pin_30 : decode cX11_pin 30 = .ok (.return_, 1) := by decide +kernel
theorem dX11_pin_31 : decode cX11_pin 31 = .ok (.aload_n 0, 1) := by decide +kernel
theorem dX11_pin_32 : decode cX11_pin 32 = .ok (.invokevirtual 210, 3) := by decide +kernel
theorem dX11_pin_35 : decode cX11_pin 35 = .ok (.ifCond .ne 8, 3) := by decide +kernel
theorem dX11_pin_38 : decode cX11_pin 38 = .ok (.aload_n 0, 1) := by decide +kernel
theorem dX11_pin_39 : decode cX11_pin 39 = .ok (.invokevirtual 189, 3) := by decide +kernel
theorem dX11_pin_42 : decode cX11_pin 42 = .ok (.return_, 1) := by decide +kernel
theorem dX11_pin_43 : decode cX11_pin 43 = .ok (.aload_n 0, 1) := by decide +kernel
theorem dX11_pin_44 : decode cX11_pin 44 = .ok (.dup, 1) := by decide +kernel
theorem dX11_pin_45 : decode cX11_pin 45 = .ok (.getfield 156, 3) := by decide +kernel
