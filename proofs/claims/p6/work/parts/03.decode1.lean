theorem dX5_readRelay_25 : decode cX5_readRelay 25 = .ok (.iconst 0, 1) := by decide +kernel
theorem dX5_readRelay_26 : decode cX5_readRelay 26 = .ok (.ireturn, 1) := by decide +kernel
theorem dX5_readRelay_27 : decode cX5_readRelay 27 = .ok (.aload_n 0, 1) := by decide +kernel
theorem dX5_readRelay_28 : decode cX5_readRelay 28 = .ok (.getfield 44, 3) := by decide +kernel
theorem dX5_readRelay_31 : decode cX5_readRelay 31 = .ok (.istore_n 2, 1) := by decide +kernel
theorem dX5_readRelay_32 : decode cX5_readRelay 32 = .ok (.aload_n 0, 1) := by decide +kernel
theorem dX5_readRelay_33 : decode cX5_readRelay 33 = .ok (.iconst 1, 1) := by decide +kernel
theorem dX5_readRelay_34 : decode cX5_readRelay 34 = .ok (.bipush 20, 2) := by decide +kernel
theorem dX5_readRelay_36 : decode cX5_readRelay 36 = .ok (.invokevirtual 116, 3) := by decide +kernel
theorem dX5_readRelay_39 : decode cX5_readRelay 39 = .ok (.ifCond .ne 5, 3) := by decide +kernel
theorem dX5_readRelay_42 : decode cX5_readRelay 42 = .ok (.iconst 0, 1) := by decide +kernel
theorem dX5_readRelay_43 : decode cX5_readRelay 43 = .ok (.ireturn, 1) := by decide +kernel
theorem dX5_readRelay_44 : decode cX5_readRelay 44 = .ok (.aload_n 0, 1) := by decide +kernel
theorem dX5_readRelay_45 : decode cX5_readRelay 45 = .ok (.getfield 44, 3) := by decide +kernel
theorem dX5_readRelay_48 : decode cX5_readRelay 48 = .ok (.istore_n 3, 1) := by decide +kernel
theorem dX5_readRelay_49 : decode cX5_readRelay 49 = .ok (.iconst 0, 1) := by decide +kernel
theorem dX5_readRelay_50 : decode cX5_readRelay 50 = .ok (.istore 4, 2) := by decide +kernel
theorem dX5_readRelay_52 : decode cX5_readRelay 52 = .ok (.iconst 0, 1) := by decide +kernel
theorem dX5_readRelay_53 : decode cX5_readRelay 53 = .ok (.istore 5, 2) := by decide +kernel
theorem dX5_readRelay_55 : decode cX5_readRelay 55 = .ok (.iload 5, 2) := by decide +kernel
theorem dX5_readRelay_57 : decode cX5_readRelay 57 = .ok (.bipush 6, 2) := by decide +kernel
theorem dX5_readRelay_59 : decode cX5_readRelay 59 = .ok (.if_icmp .ge 55, 3) := by decide +kernel
theorem dX5_readRelay_62 : decode cX5_readRelay 62 = .ok (.aload_n 0, 1) := by decide +kernel
theorem dX5_readRelay_63 : decode cX5_readRelay 63 = .ok (.invokevirtual 69, 3) := by decide +kernel
theorem dX5_readRelay_66 : decode cX5_readRelay 66 = .ok (.bipush 16, 2) := by decide +kernel
theorem dX5_readRelay_68 : decode cX5_readRelay 68 = .ok (.if_icmp .eq 12, 3) := by decide +kernel
theorem dX5_readRelay_71 : decode cX5_readRelay 71 = .ok (.aload_n 0, 1) := by decide +kernel
theorem dX5_readRelay_72 : decode cX5_readRelay 72 = .ok (.invokevirtual 69, 3) := by decide +kernel
theorem dX5_readRelay_75 : decode cX5_readRelay 75 = .ok (.bipush 17, 2) := by decide +kernel
theorem dX5_readRelay_77 : decode cX5_readRelay 77 = .ok (.if_icmp .ne 37, 3) := by decide +kernel
theorem dX5_readRelay_80 : decode cX5_readRelay 80 = .ok (.aload_n 0, 1) := by decide +kernel
theorem dX5_readRelay_81 : decode cX5_readRelay 81 = .ok (.invokevirtual 69, 3) := by decide +kernel
theorem dX5_readRelay_84 : decode cX5_readRelay 84 = .ok (.bipush 17, 2) := by decide +kernel
theorem dX5_readRelay_86 : decode cX5_readRelay 86 = .ok (.if_icmp .ne 12, 3) := by decide +kernel
theorem dX5_readRelay_89 : decode cX5_readRelay 89 = .ok (.iload 4, 2) := by decide +kernel
theorem dX5_readRelay_91 : decode cX5_readRelay 91 = .ok (.iconst 1, 1) := by decide +kernel
theorem dX5_readRelay_92 : decode cX5_readRelay 92 = .ok (.iload 5, 2) := by decide +kernel
theorem dX5_readRelay_94 : decode cX5_readRelay 94 = .ok (.ishl, 1) := by decide +kernel
theorem dX5_readRelay_95 : decode cX5_readRelay 95 = .ok (.ior, 1) := by decide +kernel
theorem dX5_readRelay_96 : decode cX5_readRelay 96 = .ok (.istore 4, 2) := by decide +kernel
theorem dX5_readRelay_98 : decode cX5_readRelay 98 = .ok (.iinc 5 1, 3) := by decide +kernel
theorem dX5_readRelay_101 : decode cX5_readRelay 101 = .ok (.aload_n 0, 1) := by decide +kernel
theorem dX5_readRelay_102 : decode cX5_readRelay 102 = .ok (.dup, 1) := by decide +kernel
theorem dX5_readRelay_103 : decode cX5_readRelay 103 = .ok (.getfield 38, 3) := by decide +kernel
theorem dX5_readRelay_106 : decode cX5_readRelay 106 = .ok (.iconst 1, 1) := by decide +kernel
theorem dX5_readRelay_107 : decode cX5_readRelay 107 = .ok (.iadd, 1) := by decide +kernel
theorem dX5_readRelay_108 : decode cX5_readRelay 108 = .ok (.putfield 38, 3) := by decide +kernel
theorem dX5_readRelay_111 : decode cX5_readRelay 111 = .ok (.goto (-56), 3) := by decide +kernel
theorem dX5_readRelay_114 : decode cX5_readRelay 114 = .ok (.aload_n 0, 1) := by decide +kernel
theorem dX5_readRelay_115 : decode cX5_readRelay 115 = .ok (.getfield 21, 3) := by decide +kernel
theorem dX5_readRelay_118 : decode cX5_readRelay 118 = .ok (.iload_n 1, 1) := by decide +kernel
theorem dX5_readRelay_119 : decode cX5_readRelay 119 = .ok (.iload_n 2, 1) := by decide +kernel
theorem dX5_readRelay_120 : decode cX5_readRelay 120 = .ok (.iload_n 3, 1) := by decide +kernel
theorem dX5_readRelay_121 : decode cX5_readRelay 121 = .ok (.iload 5, 2) := by decide +kernel
theorem dX5_readRelay_123 : decode cX5_readRelay 123 = .ok (.iload 4, 2) := by decide +kernel
theorem dX5_readRelay_125 : decode cX5_readRelay 125 = .ok (.invokevirtual 119, 3) := by decide +kernel
theorem dX5_readRelay_128 : decode cX5_readRelay 128 = .ok (.iconst 1, 1) := by decide +kernel
theorem dX5_readRelay_129 : decode cX5_readRelay 129 = .ok (.ireturn, 1) := by decide +kernel
theorem dX5_readClock_0 : decode cX5_readClock 0 = .ok (.aload_n 0, 1) := by decide +kernel
theorem dX5_readClock_1 : decode cX5_readClock 1 = .ok (.invokevirtual 109, 3) := by decide +kernel
theorem dX5_readClock_4 : decode cX5_readClock 4 = .ok (.ifCond .ne 5, 3) := by decide +kernel
theorem dX5_readClock_7 : decode cX5_readClock 7 = .ok (.iconst 0, 1) := by decide +kernel
theorem dX5_readClock_8 : decode cX5_readClock 8 = .ok (.ireturn, 1) := by decide +kernel
theorem dX5_readClock_9 : decode cX5_readClock 9 = .ok (.aload_n 0, 1) := by decide +kernel
theorem dX5_readClock_10 : decode cX5_readClock 10 = .ok (.iconst 3, 1) := by decide +kernel
theorem dX5_readClock_11 : decode cX5_readClock 11 = .ok (.invokevirtual 112, 3) := by decide +kernel
theorem dX5_readClock_14 : decode cX5_readClock 14 = .ok (.istore_n 1, 1) := by decide +kernel
theorem dX5_readClock_15 : decode cX5_readClock 15 = .ok (.aload_n 0, 1) := by decide +kernel
theorem dX5_readClock_16 : decode cX5_readClock 16 = .ok (.iconst 2, 1) := by decide +kernel
theorem dX5_readClock_17 : decode cX5_readClock 17 = .ok (.bipush 100, 2) := by decide +kernel
theorem dX5_readClock_19 : decode cX5_readClock 19 = .ok (.invokevirtual 116, 3) := by decide +kernel
theorem dX5_readClock_22 : decode cX5_readClock 22 = .ok (.ifCond .ne 5, 3) := by decide +kernel
theorem dX5_readClock_25 : decode cX5_readClock 25 = .ok (.iconst 0, 1) := by decide +kernel
theorem dX5_readClock_26 : decode cX5_readClock 26 = .ok (.ireturn, 1) := by decide +kernel
theorem dX5_readClock_27 : decode cX5_readClock 27 = .ok (.aload_n 0, 1) := by decide +kernel
theorem dX5_readClock_28 : decode cX5_readClock 28 = .ok (.getfield 44, 3) := by decide +kernel
theorem dX5_readClock_31 : decode cX5_readClock 31 = .ok (.istore_n 2, 1) := by decide +kernel
theorem dX5_readClock_32 : decode cX5_readClock 32 = .ok (.aload_n 0, 1) := by decide +kernel
theorem dX5_readClock_33 : decode cX5_readClock 33 = .ok (.iconst 1, 1) := by decide +kernel
theorem dX5_readClock_34 : decode cX5_readClock 34 = .ok (.iload_n 2, 1) := by decide +kernel
theorem dX5_readClock_35 : decode cX5_readClock 35 = .ok (.iconst 1, 1) := by decide +kernel
theorem dX5_readClock_36 : decode cX5_readClock 36 = .ok (.isub, 1) := by decide +kernel
theorem dX5_readClock_37 : decode cX5_readClock 37 = .ok (.invokevirtual 116, 3) := by decide +kernel
theorem dX5_readClock_40 : decode cX5_readClock 40 = .ok (.ifCond .ne 5, 3) := by decide +kernel
theorem dX5_readClock_43 : decode cX5_readClock 43 = .ok (.iconst 0, 1) := by decide +kernel
theorem dX5_readClock_44 : decode cX5_readClock 44 = .ok (.ireturn, 1) := by decide +kernel
theorem dX5_readClock_45 : decode cX5_readClock 45 = .ok (.aload_n 0, 1) := by decide +kernel
theorem dX5_readClock_46 : decode cX5_readClock 46 = .ok (.getfield 21, 3) := by decide +kernel
theorem dX5_readClock_49 : decode cX5_readClock 49 = .ok (.iload_n 1, 1) := by decide +kernel
theorem dX5_readClock_50 : decode cX5_readClock 50 = .ok (.iload_n 2, 1) := by decide +kernel
theorem dX5_readClock_51 : decode cX5_readClock 51 = .ok (.aload_n 0, 1) := by decide +kernel
theorem dX5_readClock_52 : decode cX5_readClock 52 = .ok (.getfield 44, 3) := by decide +kernel
theorem dX5_readClock_55 : decode cX5_readClock 55 = .ok (.invokevirtual 123, 3) := by decide +kernel
theorem dX5_readClock_58 : decode cX5_readClock 58 = .ok (.iconst 1, 1) := by decide +kernel
theorem dX5_readClock_59 : decode cX5_readClock 59 = .ok (.ireturn, 1) := by decide +kernel
theorem dX5_declare_0 : decode cX5_declare 0 = .ok (.aload_n 0, 1) := by decide +kernel
theorem dX5_declare_1 : decode cX5_declare 1 = .ok (.getfield 12, 3) := by decide +kernel
theorem dX5_declare_4 : decode cX5_declare 4 = .ok (.getfield 127, 3) := by decide +kernel
theorem dX5_declare_7 : decode cX5_declare 7 = .ok (.aload_n 0, 1) := by decide +kernel
theorem dX5_declare_8 : decode cX5_declare 8 = .ok (.getfield 41, 3) := by decide +kernel
theorem dX5_declare_11 : decode cX5_declare 11 = .ok (.laload, 1) := by decide +kernel
theorem dX5_declare_12 : decode cX5_declare 12 = .ok (.lstore_n 2, 1) := by decide +kernel
theorem dX5_declare_13 : decode cX5_declare 13 = .ok (.aload_n 0, 1) := by decide +kernel
theorem dX5_declare_14 : decode cX5_declare 14 = .ok (.getfield 21, 3) := by decide +kernel
theorem dX5_declare_17 : decode cX5_declare 17 = .ok (.lload_n 2, 1) := by decide +kernel
theorem dX5_declare_18 : decode cX5_declare 18 = .ok (.invokevirtual 131, 3) := by decide +kernel
theorem dX5_declare_21 : decode cX5_declare 21 = .ok (.iconst (-1), 1) := by decide +kernel
theorem dX5_declare_22 : decode cX5_declare 22 = .ok (.if_icmp .eq 7, 3) := by decide +kernel
theorem dX5_declare_25 : decode cX5_declare 25 = .ok (.iconst 1, 1) := by decide +kernel
theorem dX5_declare_26 : decode cX5_declare 26 = .ok (.goto 4, 3) := by decide +kernel
theorem dX5_declare_29 : decode cX5_declare 29 = .ok (.iconst 0, 1) := by decide +kernel
theorem dX5_declare_30 : decode cX5_declare 30 = .ok (.istore 4, 2) := by decide +kernel
theorem dX5_declare_32 : decode cX5_declare 32 = .ok (.iload 4, 2) := by decide +kernel
theorem dX5_declare_34 : decode cX5_declare 34 = .ok (.ifCond .eq 27, 3) := by decide +kernel
theorem dX5_declare_37 : decode cX5_declare 37 = .ok (.aload_n 0, 1) := by decide +kernel
theorem dX5_declare_38 : decode cX5_declare 38 = .ok (.getfield 35, 3) := by decide +kernel
theorem dX5_declare_41 : decode cX5_declare 41 = .ok (.iconst (-1), 1) := by decide +kernel
theorem dX5_declare_42 : decode cX5_declare 42 = .ok (.if_icmp .ne 19, 3) := by decide +kernel
theorem dX5_declare_45 : decode cX5_declare 45 = .ok (.aload_n 0, 1) := by decide +kernel
theorem dX5_declare_46 : decode cX5_declare 46 = .ok (.aload_n 0, 1) := by decide +kernel
theorem dX5_declare_47 : decode cX5_declare 47 = .ok (.getfield 12, 3) := by decide +kernel
theorem dX5_declare_50 : decode cX5_declare 50 = .ok (.getfield 81, 3) := by decide +kernel
theorem dX5_declare_53 : decode cX5_declare 53 = .ok (.aload_n 0, 1) := by decide +kernel
theorem dX5_declare_54 : decode cX5_declare 54 = .ok (.getfield 41, 3) := by decide +kernel
theorem dX5_declare_57 : decode cX5_declare 57 = .ok (.iaload, 1) := by decide +kernel
theorem dX5_declare_58 : decode cX5_declare 58 = .ok (.putfield 35, 3) := by decide +kernel
theorem dX5_declare_61 : decode cX5_declare 61 = .ok (.aload_n 0, 1) := by decide +kernel
theorem dX5_declare_62 : decode cX5_declare 62 = .ok (.getfield 21, 3) := by decide +kernel
theorem dX5_declare_65 : decode cX5_declare 65 = .ok (.iload_n 1, 1) := by decide +kernel
theorem dX5_declare_66 : decode cX5_declare 66 = .ok (.iload 4, 2) := by decide +kernel
theorem dX5_declare_68 : decode cX5_declare 68 = .ok (.ifCond .eq 7, 3) := by decide +kernel
theorem dX5_declare_71 : decode cX5_declare 71 = .ok (.lconst 0, 1) := by decide +kernel
theorem dX5_declare_72 : decode cX5_declare 72 = .ok (.goto 4, 3) := by decide +kernel
theorem dX5_declare_75 : decode cX5_declare 75 = .ok (.lload_n 2, 1) := by decide +kernel
theorem dX5_declare_76 : decode cX5_declare 76 = .ok (.invokevirtual 135, 3) := by decide +kernel
theorem dX5_declare_79 : decode cX5_declare 79 = .ok (.istore 5, 2) := by decide +kernel
theorem dX5_declare_81 : decode cX5_declare 81 = .ok (.iload 5, 2) := by decide +kernel
theorem dX5_declare_83 : decode cX5_declare 83 = .ok (.iconst (-1), 1) := by decide +kernel
theorem dX5_declare_84 : decode cX5_declare 84 = .ok (.if_icmp .ne 27, 3) := by decide +kernel
theorem dX5_declare_87 : decode cX5_declare 87 = .ok (.aload_n 0, 1) := by decide +kernel
theorem dX5_declare_88 : decode cX5_declare 88 = .ok (.getfield 32, 3) := by decide +kernel
theorem dX5_declare_91 : decode cX5_declare 91 = .ok (.iconst (-1), 1) := by decide +kernel
theorem dX5_declare_92 : decode cX5_declare 92 = .ok (.if_icmp .ne 19, 3) := by decide +kernel
theorem dX5_declare_95 : decode cX5_declare 95 = .ok (.aload_n 0, 1) := by decide +kernel
theorem dX5_declare_96 : decode cX5_declare 96 = .ok (.aload_n 0, 1) := by decide +kernel
theorem dX5_declare_97 : decode cX5_declare 97 = .ok (.getfield 12, 3) := by decide +kernel
theorem dX5_declare_100 : decode cX5_declare 100 = .ok (.getfield 81, 3) := by decide +kernel
theorem dX5_declare_103 : decode cX5_declare 103 = .ok (.aload_n 0, 1) := by decide +kernel
theorem dX5_declare_104 : decode cX5_declare 104 = .ok (.getfield 41, 3) := by decide +kernel
theorem dX5_declare_107 : decode cX5_declare 107 = .ok (.iaload, 1) := by decide +kernel
theorem dX5_declare_108 : decode cX5_declare 108 = .ok (.putfield 32, 3) := by decide +kernel
theorem dX5_declare_111 : decode cX5_declare 111 = .ok (.iload 5, 2) := by decide +kernel
theorem dX5_declare_113 : decode cX5_declare 113 = .ok (.ireturn, 1) := by decide +kernel
theorem dX5_readWire_0 : decode cX5_readWire 0 = .ok (.aload_n 0, 1) := by decide +kernel
theorem dX5_readWire_1 : decode cX5_readWire 1 = .ok (.dup, 1) := by decide +kernel
theorem dX5_readWire_2 : decode cX5_readWire 2 = .ok (.getfield 60, 3) := by decide +kernel
theorem dX5_readWire_5 : decode cX5_readWire 5 = .ok (.iconst 1, 1) := by decide +kernel
theorem dX5_readWire_6 : decode cX5_readWire 6 = .ok (.iadd, 1) := by decide +kernel
theorem dX5_readWire_7 : decode cX5_readWire 7 = .ok (.putfield 60, 3) := by decide +kernel
theorem dX5_readWire_10 : decode cX5_readWire 10 = .ok (.aload_n 0, 1) := by decide +kernel
theorem dX5_readWire_11 : decode cX5_readWire 11 = .ok (.getfield 57, 3) := by decide +kernel
theorem dX5_readWire_14 : decode cX5_readWire 14 = .ok (.istore_n 1, 1) := by decide +kernel
theorem dX5_readWire_15 : decode cX5_readWire 15 = .ok (.iconst 0, 1) := by decide +kernel
theorem dX5_readWire_16 : decode cX5_readWire 16 = .ok (.istore_n 2, 1) := by decide +kernel
theorem dX5_readWire_17 : decode cX5_readWire 17 = .ok (.iload_n 2, 1) := by decide +kernel
theorem dX5_readWire_18 : decode cX5_readWire 18 = .ok (.sipush 1334, 3) := by decide +kernel
theorem dX5_readWire_21 : decode cX5_readWire 21 = .ok (.if_icmp .ge 27, 3) := by decide +kernel
theorem dX5_readWire_24 : decode cX5_readWire 24 = .ok (.aload_n 0, 1) := by decide +kernel
theorem dX5_readWire_25 : decode cX5_readWire 25 = .ok (.invokevirtual 69, 3) := by decide +kernel
theorem dX5_readWire_28 : decode cX5_readWire 28 = .ok (.bipush 59, 2) := by decide +kernel
theorem dX5_readWire_30 : decode cX5_readWire 30 = .ok (.if_icmp .eq 18, 3) := by decide +kernel
theorem dX5_readWire_33 : decode cX5_readWire 33 = .ok (.aload_n 0, 1) := by decide +kernel
theorem dX5_readWire_34 : decode cX5_readWire 34 = .ok (.invokevirtual 139, 3) := by decide +kernel
theorem dX5_readWire_37 : decode cX5_readWire 37 = .ok (.ifCond .ne 5, 3) := by decide +kernel
theorem dX5_readWire_40 : decode cX5_readWire 40 = .ok (.iconst 0, 1) := by decide +kernel
theorem dX5_readWire_41 : decode cX5_readWire 41 = .ok (.ireturn, 1) := by decide +kernel
theorem dX5_readWire_42 : decode cX5_readWire 42 = .ok (.iinc 2 1, 3) := by decide +kernel
theorem dX5_readWire_45 : decode cX5_readWire 45 = .ok (.goto (-28), 3) := by decide +kernel
theorem dX5_readWire_48 : decode cX5_readWire 48 = .ok (.aload_n 0, 1) := by decide +kernel
theorem dX5_readWire_49 : decode cX5_readWire 49 = .ok (.getfield 57, 3) := by decide +kernel
theorem dX5_readWire_52 : decode cX5_readWire 52 = .ok (.iload_n 1, 1) := by decide +kernel
theorem dX5_readWire_53 : decode cX5_readWire 53 = .ok (.iconst 2, 1) := by decide +kernel
theorem dX5_readWire_54 : decode cX5_readWire 54 = .ok (.iadd, 1) := by decide +kernel
theorem dX5_readWire_55 : decode cX5_readWire 55 = .ok (.if_icmp .lt 7, 3) := by decide +kernel
theorem dX5_readWire_58 : decode cX5_readWire 58 = .ok (.iconst 1, 1) := by decide +kernel
theorem dX5_readWire_59 : decode cX5_readWire 59 = .ok (.goto 4, 3) := by decide +kernel
theorem dX5_readWire_62 : decode cX5_readWire 62 = .ok (.iconst 0, 1) := by decide +kernel
theorem dX5_readWire_63 : decode cX5_readWire 63 = .ok (.ireturn, 1) := by decide +kernel
theorem dX5_readPin_0 : decode cX5_readPin 0 = .ok (.aload_n 0, 1) := by decide +kernel
theorem dX5_readPin_1 : decode cX5_readPin 1 = .ok (.getfield 38, 3) := by decide +kernel
theorem dX5_readPin_4 : decode cX5_readPin 4 = .ok (.istore_n 1, 1) := by decide +kernel
theorem dX5_readPin_5 : decode cX5_readPin 5 = .ok (.aload_n 0, 1) := by decide +kernel
theorem dX5_readPin_6 : decode cX5_readPin 6 = .ok (.bipush 18, 2) := by decide +kernel
theorem dX5_readPin_8 : decode cX5_readPin 8 = .ok (.invokevirtual 77, 3) := by decide +kernel
theorem dX5_readPin_11 : decode cX5_readPin 11 = .ok (.ifCond .eq 10, 3) := by decide +kernel
theorem dX5_readPin_14 : decode cX5_readPin 14 = .ok (.aload_n 0, 1) := by decide +kernel
theorem dX5_readPin_15 : decode cX5_readPin 15 = .ok (.iload_n 1, 1) := by decide +kernel
theorem dX5_readPin_16 : decode cX5_readPin 16 = .ok (.iconst 0, 1) := by decide +kernel
theorem dX5_readPin_17 : decode cX5_readPin 17 = .ok (.invokevirtual 142, 3) := by decide +kernel
theorem dX5_readPin_20 : decode cX5_readPin 20 = .ok (.ireturn, 1) := by decide +kernel
theorem dX5_readPin_21 : decode cX5_readPin 21 = .ok (.aload_n 0, 1) := by decide +kernel
theorem dX5_readPin_22 : decode cX5_readPin 22 = .ok (.bipush 19, 2) := by decide +kernel
theorem dX5_readPin_24 : decode cX5_readPin 24 = .ok (.invokevirtual 77, 3) := by decide +kernel
theorem dX5_readPin_27 : decode cX5_readPin 27 = .ok (.ifCond .eq 10, 3) := by decide +kernel
theorem dX5_readPin_30 : decode cX5_readPin 30 = .ok (.aload_n 0, 1) := by decide +kernel
theorem dX5_readPin_31 : decode cX5_readPin 31 = .ok (.iload_n 1, 1) := by decide +kernel
theorem dX5_readPin_32 : decode cX5_readPin 32 = .ok (.iconst 1, 1) := by decide +kernel
theorem dX5_readPin_33 : decode cX5_readPin 33 = .ok (.invokevirtual 142, 3) := by decide +kernel
theorem dX5_readPin_36 : decode cX5_readPin 36 = .ok (.ireturn, 1) := by decide +kernel
theorem dX5_readPin_37 : decode cX5_readPin 37 = .ok (.aload_n 0, 1) := by decide +kernel
theorem dX5_readPin_38 : decode cX5_readPin 38 = .ok (.invokevirtual 109, 3) := by decide +kernel
theorem dX5_readPin_41 : decode cX5_readPin 41 = .ok (.ifCond .eq 24, 3) := by decide +kernel
theorem dX5_readPin_44 : decode cX5_readPin 44 = .ok (.aload_n 0, 1) := by decide +kernel
theorem dX5_readPin_45 : decode cX5_readPin 45 = .ok (.bipush 46, 2) := by decide +kernel
theorem dX5_readPin_47 : decode cX5_readPin 47 = .ok (.invokevirtual 77, 3) := by decide +kernel
theorem dX5_readPin_50 : decode cX5_readPin 50 = .ok (.ifCond .eq 15, 3) := by decide +kernel
theorem dX5_readPin_53 : decode cX5_readPin 53 = .ok (.aload_n 0, 1) := by decide +kernel
theorem dX5_readPin_54 : decode cX5_readPin 54 = .ok (.iload_n 1, 1) := by decide +kernel
theorem dX5_readPin_55 : decode cX5_readPin 55 = .ok (.invokevirtual 145, 3) := by decide +kernel
theorem dX5_readPin_58 : decode cX5_readPin 58 = .ok (.ifCond .eq 7, 3) := by decide +kernel
theorem dX5_readPin_61 : decode cX5_readPin 61 = .ok (.iconst 1, 1) := by decide +kernel
theorem dX5_readPin_62 : decode cX5_readPin 62 = .ok (.goto 4, 3) := by decide +kernel
theorem dX5_readPin_65 : decode cX5_readPin 65 = .ok (.iconst 0, 1) := by decide +kernel
theorem dX5_readPin_66 : decode cX5_readPin 66 = .ok (.ireturn, 1) := by decide +kernel
theorem dX5_readEnd_0 : decode cX5_readEnd 0 = .ok (.aload_n 0, 1) := by decide +kernel
theorem dX5_readEnd_1 : decode cX5_readEnd 1 = .ok (.invokevirtual 69, 3) := by decide +kernel
theorem dX5_readEnd_4 : decode cX5_readEnd 4 = .ok (.iconst 1, 1) := by decide +kernel
theorem dX5_readEnd_5 : decode cX5_readEnd 5 = .ok (.if_icmp .ne 63, 3) := by decide +kernel
theorem dX5_readEnd_8 : decode cX5_readEnd 8 = .ok (.aload_n 0, 1) := by decide +kernel
theorem dX5_readEnd_9 : decode cX5_readEnd 9 = .ok (.getfield 12, 3) := by decide +kernel
theorem dX5_readEnd_12 : decode cX5_readEnd 12 = .ok (.getfield 127, 3) := by decide +kernel
theorem dX5_readEnd_15 : decode cX5_readEnd 15 = .ok (.aload_n 0, 1) := by decide +kernel
theorem dX5_readEnd_16 : decode cX5_readEnd 16 = .ok (.getfield 38, 3) := by decide +kernel
theorem dX5_readEnd_19 : decode cX5_readEnd 19 = .ok (.laload, 1) := by decide +kernel
theorem dX5_readEnd_20 : decode cX5_readEnd 20 = .ok (.lstore_n 2, 1) := by decide +kernel
theorem dX5_readEnd_21 : decode cX5_readEnd 21 = .ok (.lload_n 2, 1) := by decide +kernel
theorem dX5_readEnd_22 : decode cX5_readEnd 22 = .ok (.ldc2_w 148, 3) := by decide +kernel
theorem dX5_readEnd_25 : decode cX5_readEnd 25 = .ok (.lcmp, 1) := by decide +kernel
theorem dX5_readEnd_26 : decode cX5_readEnd 26 = .ok (.ifCond .eq 13, 3) := by decide +kernel
theorem dX5_readEnd_29 : decode cX5_readEnd 29 = .ok (.lload_n 2, 1) := by decide +kernel
theorem dX5_readEnd_30 : decode cX5_readEnd 30 = .ok (.ldc2_w 150, 3) := by decide +kernel
theorem dX5_readEnd_33 : decode cX5_readEnd 33 = .ok (.lcmp, 1) := by decide +kernel
theorem dX5_readEnd_34 : decode cX5_readEnd 34 = .ok (.ifCond .eq 5, 3) := by decide +kernel
theorem dX5_readEnd_37 : decode cX5_readEnd 37 = .ok (.iconst 0, 1) := by decide +kernel
theorem dX5_readEnd_38 : decode cX5_readEnd 38 = .ok (.ireturn, 1) := by decide +kernel
theorem dX5_readEnd_39 : decode cX5_readEnd 39 = .ok (.aload_n 0, 1) := by decide +kernel
theorem dX5_readEnd_40 : decode cX5_readEnd 40 = .ok (.dup, 1) := by decide +kernel
theorem dX5_readEnd_41 : decode cX5_readEnd 41 = .ok (.getfield 38, 3) := by decide +kernel
theorem dX5_readEnd_44 : decode cX5_readEnd 44 = .ok (.iconst 1, 1) := by decide +kernel
theorem dX5_readEnd_45 : decode cX5_readEnd 45 = .ok (.iadd, 1) := by decide +kernel
theorem dX5_readEnd_46 : decode cX5_readEnd 46 = .ok (.putfield 38, 3) := by decide +kernel
theorem dX5_readEnd_49 : decode cX5_readEnd 49 = .ok (.aload_n 0, 1) := by decide +kernel
theorem dX5_readEnd_50 : decode cX5_readEnd 50 = .ok (.iload_n 1, 1) := by decide +kernel
theorem dX5_readEnd_51 : decode cX5_readEnd 51 = .ok (.lload_n 2, 1) := by decide +kernel
theorem dX5_readEnd_52 : decode cX5_readEnd 52 = .ok (.ldc2_w 148, 3) := by decide +kernel
theorem dX5_readEnd_55 : decode cX5_readEnd 55 = .ok (.lcmp, 1) := by decide +kernel
theorem dX5_readEnd_56 : decode cX5_readEnd 56 = .ok (.ifCond .ne 7, 3) := by decide +kernel
theorem dX5_readEnd_59 : decode cX5_readEnd 59 = .ok (.iconst 0, 1) := by decide +kernel
theorem dX5_readEnd_60 : decode cX5_readEnd 60 = .ok (.goto 4, 3) := by decide +kernel
theorem dX5_readEnd_63 : decode cX5_readEnd 63 = .ok (.iconst 1, 1) := by decide +kernel
theorem dX5_readEnd_64 : decode cX5_readEnd 64 = .ok (.invokevirtual 142, 3) := by decide +kernel
theorem dX5_readEnd_67 : decode cX5_readEnd 67 = .ok (.ireturn, 1) := by decide +kernel
theorem dX5_readEnd_68 : decode cX5_readEnd 68 = .ok (.aload_n 0, 1) := by decide +kernel
theorem dX5_readEnd_69 : decode cX5_readEnd 69 = .ok (.iconst 1, 1) := by decide +kernel
theorem dX5_readEnd_70 : decode cX5_readEnd 70 = .ok (.bipush 6, 2) := by decide +kernel
theorem dX5_readEnd_72 : decode cX5_readEnd 72 = .ok (.invokevirtual 116, 3) := by decide +kernel
theorem dX5_readEnd_75 : decode cX5_readEnd 75 = .ok (.ifCond .ne 5, 3) := by decide +kernel
theorem dX5_readEnd_78 : decode cX5_readEnd 78 = .ok (.iconst 0, 1) := by decide +kernel
theorem dX5_readEnd_79 : decode cX5_readEnd 79 = .ok (.ireturn, 1) := by decide +kernel
theorem dX5_readEnd_80 : decode cX5_readEnd 80 = .ok (.iconst 3, 1) := by decide +kernel
theorem dX5_readEnd_81 : decode cX5_readEnd 81 = .ok (.aload_n 0, 1) := by decide +kernel
theorem dX5_readEnd_82 : decode cX5_readEnd 82 = .ok (.getfield 44, 3) := by decide +kernel
theorem dX5_readEnd_85 : decode cX5_readEnd 85 = .ok (.imul, 1) := by decide +kernel
theorem dX5_readEnd_86 : decode cX5_readEnd 86 = .ok (.iconst 1, 1) := by decide +kernel
theorem dX5_readEnd_87 : decode cX5_readEnd 87 = .ok (.isub, 1) := by decide +kernel
theorem dX5_readEnd_88 : decode cX5_readEnd 88 = .ok (.istore_n 2, 1) := by decide +kernel
theorem dX5_readEnd_89 : decode cX5_readEnd 89 = .ok (.aload_n 0, 1) := by decide +kernel
theorem dX5_readEnd_90 : decode cX5_readEnd 90 = .ok (.bipush 43, 2) := by decide +kernel
theorem dX5_readEnd_92 : decode cX5_readEnd 92 = .ok (.invokevirtual 77, 3) := by decide +kernel
theorem dX5_readEnd_95 : decode cX5_readEnd 95 = .ok (.ifCond .eq 12, 3) := by decide +kernel
theorem dX5_readEnd_98 : decode cX5_readEnd 98 = .ok (.aload_n 0, 1) := by decide +kernel
theorem dX5_readEnd_99 : decode cX5_readEnd 99 = .ok (.iload_n 1, 1) := by decide +kernel
theorem dX5_readEnd_100 : decode cX5_readEnd 100 = .ok (.iload_n 2, 1) := by decide +kernel
theorem dX5_readEnd_101 : decode cX5_readEnd 101 = .ok (.iconst 1, 1) := by decide +kernel
theorem dX5_readEnd_102 : decode cX5_readEnd 102 = .ok (.iadd, 1) := by decide +kernel
theorem dX5_readEnd_103 : decode cX5_readEnd 103 = .ok (.invokevirtual 142, 3) := by decide +kernel
theorem dX5_readEnd_106 : decode cX5_readEnd 106 = .ok (.ireturn, 1) := by decide +kernel
theorem dX5_readEnd_107 : decode cX5_readEnd 107 = .ok (.aload_n 0, 1) := by decide +kernel
theorem dX5_readEnd_108 : decode cX5_readEnd 108 = .ok (.iload_n 1, 1) := by decide +kernel
theorem dX5_readEnd_109 : decode cX5_readEnd 109 = .ok (.aload_n 0, 1) := by decide +kernel
theorem dX5_readEnd_110 : decode cX5_readEnd 110 = .ok (.bipush 45, 2) := by decide +kernel
theorem dX5_readEnd_112 : decode cX5_readEnd 112 = .ok (.invokevirtual 77, 3) := by decide +kernel
theorem dX5_readEnd_115 : decode cX5_readEnd 115 = .ok (.ifCond .eq 9, 3) := by decide +kernel
theorem dX5_readEnd_118 : decode cX5_readEnd 118 = .ok (.iload_n 2, 1) := by decide +kernel
theorem dX5_readEnd_119 : decode cX5_readEnd 119 = .ok (.iconst 2, 1) := by decide +kernel
theorem dX5_readEnd_120 : decode cX5_readEnd 120 = .ok (.iadd, 1) := by decide +kernel
theorem dX5_readEnd_121 : decode cX5_readEnd 121 = .ok (.goto 4, 3) := by decide +kernel
theorem dX5_readEnd_124 : decode cX5_readEnd 124 = .ok (.iload_n 2, 1) := by decide +kernel
theorem dX5_readEnd_125 : decode cX5_readEnd 125 = .ok (.invokevirtual 142, 3) := by decide +kernel
theorem dX5_readEnd_128 : decode cX5_readEnd 128 = .ok (.ireturn, 1) := by decide +kernel
theorem dX5_addPin_0 : decode cX5_addPin 0 = .ok (.aload_n 0, 1) := by decide +kernel
theorem dX5_addPin_1 : decode cX5_addPin 1 = .ok (.getfield 57, 3) := by decide +kernel
theorem dX5_addPin_4 : decode cX5_addPin 4 = .ok (.sipush 1334, 3) := by decide +kernel
theorem dX5_addPin_7 : decode cX5_addPin 7 = .ok (.if_icmp .lt 5, 3) := by decide +kernel
theorem dX5_addPin_10 : decode cX5_addPin 10 = .ok (.iconst 0, 1) := by decide +kernel
theorem dX5_addPin_11 : decode cX5_addPin 11 = .ok (.ireturn, 1) := by decide +kernel
theorem dX5_addPin_12 : decode cX5_addPin 12 = .ok (.aload_n 0, 1) := by decide +kernel
theorem dX5_addPin_13 : decode cX5_addPin 13 = .ok (.getfield 47, 3) := by decide +kernel
theorem dX5_addPin_16 : decode cX5_addPin 16 = .ok (.aload_n 0, 1) := by decide +kernel
theorem dX5_addPin_17 : decode cX5_addPin 17 = .ok (.getfield 57, 3) := by decide +kernel
theorem dX5_addPin_20 : decode cX5_addPin 20 = .ok (.iload_n 1, 1) := by decide +kernel
theorem dX5_addPin_21 : decode cX5_addPin 21 = .ok (.iastore, 1) := by decide +kernel
theorem dX5_addPin_22 : decode cX5_addPin 22 = .ok (.aload_n 0, 1) := by decide +kernel
theorem dX5_addPin_23 : decode cX5_addPin 23 = .ok (.getfield 51, 3) := by decide +kernel
theorem dX5_addPin_26 : decode cX5_addPin 26 = .ok (.aload_n 0, 1) := by decide +kernel
theorem dX5_addPin_27 : decode cX5_addPin 27 = .ok (.getfield 57, 3) := by decide +kernel
theorem dX5_addPin_30 : decode cX5_addPin 30 = .ok (.iload_n 2, 1) := by decide +kernel
theorem dX5_addPin_31 : decode cX5_addPin 31 = .ok (.iastore, 1) := by decide +kernel
theorem dX5_addPin_32 : decode cX5_addPin 32 = .ok (.aload_n 0, 1) := by decide +kernel
theorem dX5_addPin_33 : decode cX5_addPin 33 = .ok (.getfield 54, 3) := by decide +kernel
theorem dX5_addPin_36 : decode cX5_addPin 36 = .ok (.aload_n 0, 1) := by decide +kernel
theorem dX5_addPin_37 : decode cX5_addPin 37 = .ok (.getfield 57, 3) := by decide +kernel
theorem dX5_addPin_40 : decode cX5_addPin 40 = .ok (.aload_n 0, 1) := by decide +kernel
theorem dX5_addPin_41 : decode cX5_addPin 41 = .ok (.getfield 60, 3) := by decide +kernel
theorem dX5_addPin_44 : decode cX5_addPin 44 = .ok (.iastore, 1) := by decide +kernel
theorem dX5_addPin_45 : decode cX5_addPin 45 = .ok (.aload_n 0, 1) := by decide +kernel
theorem dX5_addPin_46 : decode cX5_addPin 46 = .ok (.dup, 1) := by decide +kernel
theorem dX5_addPin_47 : decode cX5_addPin 47 = .ok (.getfield 57, 3) := by decide +kernel
theorem dX5_addPin_50 : decode cX5_addPin 50 = .ok (.iconst 1, 1) := by decide +kernel
theorem dX5_addPin_51 : decode cX5_addPin 51 = .ok (.iadd, 1) := by decide +kernel
theorem dX5_addPin_52 : decode cX5_addPin 52 = .ok (.putfield 57, 3) := by decide +kernel
theorem dX5_addPin_55 : decode cX5_addPin 55 = .ok (.iconst 1, 1) := by decide +kernel
theorem dX5_addPin_56 : decode cX5_addPin 56 = .ok (.ireturn, 1) := by decide +kernel
theorem dX5_kind_0 : decode cX5_kind 0 = .ok (.aload_n 0, 1) := by decide +kernel
theorem dX5_kind_1 : decode cX5_kind 1 = .ok (.getfield 38, 3) := by decide +kernel
theorem dX5_kind_4 : decode cX5_kind 4 = .ok (.aload_n 0, 1) := by decide +kernel
theorem dX5_kind_5 : decode cX5_kind 5 = .ok (.getfield 12, 3) := by decide +kernel
theorem dX5_kind_8 : decode cX5_kind 8 = .ok (.getfield 152, 3) := by decide +kernel
theorem dX5_kind_11 : decode cX5_kind 11 = .ok (.if_icmp .ge 18, 3) := by decide +kernel
theorem dX5_kind_14 : decode cX5_kind 14 = .ok (.aload_n 0, 1) := by decide +kernel
theorem dX5_kind_15 : decode cX5_kind 15 = .ok (.getfield 12, 3) := by decide +kernel
theorem dX5_kind_18 : decode cX5_kind 18 = .ok (.getfield 155, 3) := by decide +kernel
theorem dX5_kind_21 : decode cX5_kind 21 = .ok (.aload_n 0, 1) := by decide +kernel
theorem dX5_kind_22 : decode cX5_kind 22 = .ok (.getfield 38, 3) := by decide +kernel
theorem dX5_kind_25 : decode cX5_kind 25 = .ok (.iaload, 1) := by decide +kernel
theorem dX5_kind_26 : decode cX5_kind 26 = .ok (.goto 4, 3) := by decide +kernel
theorem dX5_kind_29 : decode cX5_kind 29 = .ok (.iconst 3, 1) := by decide +kernel
theorem dX5_kind_30 : decode cX5_kind 30 = .ok (.ireturn, 1) := by decide +kernel
theorem dX5_pass_0 : decode cX5_pass 0 = .ok (.aload_n 0, 1) := by decide +kernel
theorem dX5_pass_1 : decode cX5_pass 1 = .ok (.getfield 38, 3) := by decide +kernel
theorem dX5_pass_4 : decode cX5_pass 4 = .ok (.aload_n 0, 1) := by decide +kernel
theorem dX5_pass_5 : decode cX5_pass 5 = .ok (.getfield 12, 3) := by decide +kernel
theorem dX5_pass_8 : decode cX5_pass 8 = .ok (.getfield 152, 3) := by decide +kernel
theorem dX5_pass_11 : decode cX5_pass 11 = .ok (.if_icmp .ge 19, 3) := by decide +kernel
theorem dX5_pass_14 : decode cX5_pass 14 = .ok (.aload_n 0, 1) := by decide +kernel
theorem dX5_pass_15 : decode cX5_pass 15 = .ok (.getfield 12, 3) := by decide +kernel
theorem dX5_pass_18 : decode cX5_pass 18 = .ok (.getfield 155, 3) := by decide +kernel
theorem dX5_pass_21 : decode cX5_pass 21 = .ok (.aload_n 0, 1) := by decide +kernel
theorem dX5_pass_22 : decode cX5_pass 22 = .ok (.getfield 38, 3) := by decide +kernel
theorem dX5_pass_25 : decode cX5_pass 25 = .ok (.iaload, 1) := by decide +kernel
theorem dX5_pass_26 : decode cX5_pass 26 = .ok (.iload_n 1, 1) := by decide +kernel
theorem dX5_pass_27 : decode cX5_pass 27 = .ok (.if_icmp .eq 5, 3) := by decide +kernel
theorem dX5_pass_30 : decode cX5_pass 30 = .ok (.iconst 0, 1) := by decide +kernel
theorem dX5_pass_31 : decode cX5_pass 31 = .ok (.ireturn, 1) := by decide +kernel
theorem dX5_pass_32 : decode cX5_pass 32 = .ok (.aload_n 0, 1) := by decide +kernel
theorem dX5_pass_33 : decode cX5_pass 33 = .ok (.dup, 1) := by decide +kernel
theorem dX5_pass_34 : decode cX5_pass 34 = .ok (.getfield 38, 3) := by decide +kernel
theorem dX5_pass_37 : decode cX5_pass 37 = .ok (.iconst 1, 1) := by decide +kernel
theorem dX5_pass_38 : decode cX5_pass 38 = .ok (.iadd, 1) := by decide +kernel
theorem dX5_pass_39 : decode cX5_pass 39 = .ok (.putfield 38, 3) := by decide +kernel
theorem dX5_pass_42 : decode cX5_pass 42 = .ok (.iconst 1, 1) := by decide +kernel
theorem dX5_pass_43 : decode cX5_pass 43 = .ok (.ireturn, 1) := by decide +kernel
theorem dX5_passName_0 : decode cX5_passName 0 = .ok (.aload_n 0, 1) := by decide +kernel
theorem dX5_passName_1 : decode cX5_passName 1 = .ok (.aload_n 0, 1) := by decide +kernel
theorem dX5_passName_2 : decode cX5_passName 2 = .ok (.getfield 38, 3) := by decide +kernel
theorem dX5_passName_5 : decode cX5_passName 5 = .ok (.putfield 41, 3) := by decide +kernel
theorem dX5_passName_8 : decode cX5_passName 8 = .ok (.aload_n 0, 1) := by decide +kernel
theorem dX5_passName_9 : decode cX5_passName 9 = .ok (.iconst 1, 1) := by decide +kernel
theorem dX5_passName_10 : decode cX5_passName 10 = .ok (.invokevirtual 77, 3) := by decide +kernel
theorem dX5_passName_13 : decode cX5_passName 13 = .ok (.ireturn, 1) := by decide +kernel
theorem dX5_passNumber_0 : decode cX5_passNumber 0 = .ok (.aload_n 0, 1) := by decide +kernel
theorem dX5_passNumber_1 : decode cX5_passNumber 1 = .ok (.getfield 38, 3) := by decide +kernel
theorem dX5_passNumber_4 : decode cX5_passNumber 4 = .ok (.aload_n 0, 1) := by decide +kernel
theorem dX5_passNumber_5 : decode cX5_passNumber 5 = .ok (.getfield 12, 3) := by decide +kernel
theorem dX5_passNumber_8 : decode cX5_passNumber 8 = .ok (.getfield 152, 3) := by decide +kernel
theorem dX5_passNumber_11 : decode cX5_passNumber 11 = .ok (.if_icmp .ge 19, 3) := by decide +kernel
theorem dX5_passNumber_14 : decode cX5_passNumber 14 = .ok (.aload_n 0, 1) := by decide +kernel
theorem dX5_passNumber_15 : decode cX5_passNumber 15 = .ok (.getfield 12, 3) := by decide +kernel
theorem dX5_passNumber_18 : decode cX5_passNumber 18 = .ok (.getfield 155, 3) := by decide +kernel
theorem dX5_passNumber_21 : decode cX5_passNumber 21 = .ok (.aload_n 0, 1) := by decide +kernel
theorem dX5_passNumber_22 : decode cX5_passNumber 22 = .ok (.getfield 38, 3) := by decide +kernel
theorem dX5_passNumber_25 : decode cX5_passNumber 25 = .ok (.iaload, 1) := by decide +kernel
theorem dX5_passNumber_26 : decode cX5_passNumber 26 = .ok (.iconst 2, 1) := by decide +kernel
theorem dX5_passNumber_27 : decode cX5_passNumber 27 = .ok (.if_icmp .eq 5, 3) := by decide +kernel
theorem dX5_passNumber_30 : decode cX5_passNumber 30 = .ok (.iconst 0, 1) := by decide +kernel
theorem dX5_passNumber_31 : decode cX5_passNumber 31 = .ok (.ireturn, 1) := by decide +kernel
theorem dX5_passNumber_32 : decode cX5_passNumber 32 = .ok (.aload_n 0, 1) := by decide +kernel
theorem dX5_passNumber_33 : decode cX5_passNumber 33 = .ok (.getfield 12, 3) := by decide +kernel
theorem dX5_passNumber_36 : decode cX5_passNumber 36 = .ok (.getfield 127, 3) := by decide +kernel
theorem dX5_passNumber_39 : decode cX5_passNumber 39 = .ok (.aload_n 0, 1) := by decide +kernel
theorem dX5_passNumber_40 : decode cX5_passNumber 40 = .ok (.getfield 38, 3) := by decide +kernel
theorem dX5_passNumber_43 : decode cX5_passNumber 43 = .ok (.laload, 1) := by decide +kernel
theorem dX5_passNumber_44 : decode cX5_passNumber 44 = .ok (.iload_n 1, 1) := by decide +kernel
theorem dX5_passNumber_45 : decode cX5_passNumber 45 = .ok (.i2l, 1) := by decide +kernel
theorem dX5_passNumber_46 : decode cX5_passNumber 46 = .ok (.lcmp, 1) := by decide +kernel
theorem dX5_passNumber_47 : decode cX5_passNumber 47 = .ok (.ifCond .lt 21, 3) := by decide +kernel
theorem dX5_passNumber_50 : decode cX5_passNumber 50 = .ok (.aload_n 0, 1) := by decide +kernel
theorem dX5_passNumber_51 : decode cX5_passNumber 51 = .ok (.getfield 12, 3) := by decide +kernel
theorem dX5_passNumber_54 : decode cX5_passNumber 54 = .ok (.getfield 127, 3) := by decide +kernel
theorem dX5_passNumber_57 : decode cX5_passNumber 57 = .ok (.aload_n 0, 1) := by decide +kernel
theorem dX5_passNumber_58 : decode cX5_passNumber 58 = .ok (.getfield 38, 3) := by decide +kernel
theorem dX5_passNumber_61 : decode cX5_passNumber 61 = .ok (.laload, 1) := by decide +kernel
theorem dX5_passNumber_62 : decode cX5_passNumber 62 = .ok (.iload_n 2, 1) := by decide +kernel
theorem dX5_passNumber_63 : decode cX5_passNumber 63 = .ok (.i2l, 1) := by decide +kernel
theorem dX5_passNumber_64 : decode cX5_passNumber 64 = .ok (.lcmp, 1) := by decide +kernel
theorem dX5_passNumber_65 : decode cX5_passNumber 65 = .ok (.ifCond .le 5, 3) := by decide +kernel
theorem dX5_passNumber_68 : decode cX5_passNumber 68 = .ok (.iconst 0, 1) := by decide +kernel
theorem dX5_passNumber_69 : decode cX5_passNumber 69 = .ok (.ireturn, 1) := by decide +kernel
theorem dX5_passNumber_70 : decode cX5_passNumber 70 = .ok (.aload_n 0, 1) := by decide +kernel
theorem dX5_passNumber_71 : decode cX5_passNumber 71 = .ok (.aload_n 0, 1) := by decide +kernel
theorem dX5_passNumber_72 : decode cX5_passNumber 72 = .ok (.getfield 12, 3) := by decide +kernel
theorem dX5_passNumber_75 : decode cX5_passNumber 75 = .ok (.getfield 127, 3) := by decide +kernel
theorem dX5_passNumber_78 : decode cX5_passNumber 78 = .ok (.aload_n 0, 1) := by decide +kernel
theorem dX5_passNumber_79 : decode cX5_passNumber 79 = .ok (.getfield 38, 3) := by decide +kernel
theorem dX5_passNumber_82 : decode cX5_passNumber 82 = .ok (.laload, 1) := by decide +kernel
theorem dX5_passNumber_83 : decode cX5_passNumber 83 = .ok (.l2i, 1) := by decide +kernel
theorem dX5_passNumber_84 : decode cX5_passNumber 84 = .ok (.putfield 44, 3) := by decide +kernel
theorem dX5_passNumber_87 : decode cX5_passNumber 87 = .ok (.aload_n 0, 1) := by decide +kernel
theorem dX5_passNumber_88 : decode cX5_passNumber 88 = .ok (.dup, 1) := by decide +kernel
theorem dX5_passNumber_89 : decode cX5_passNumber 89 = .ok (.getfield 38, 3) := by decide +kernel
theorem dX5_passNumber_92 : decode cX5_passNumber 92 = .ok (.iconst 1, 1) := by decide +kernel
theorem dX5_passNumber_93 : decode cX5_passNumber 93 = .ok (.iadd, 1) := by decide +kernel
theorem dX5_passNumber_94 : decode cX5_passNumber 94 = .ok (.putfield 38, 3) := by decide +kernel
theorem dX5_passNumber_97 : decode cX5_passNumber 97 = .ok (.iconst 1, 1) := by decide +kernel
theorem dX5_passNumber_98 : decode cX5_passNumber 98 = .ok (.ireturn, 1) := by decide +kernel
theorem dX5_findEnds_0 : decode cX5_findEnds 0 = .ok (.iconst 0, 1) := by decide +kernel
theorem dX5_findEnds_1 : decode cX5_findEnds 1 = .ok (.istore_n 1, 1) := by decide +kernel
theorem dX5_findEnds_2 : decode cX5_findEnds 2 = .ok (.iload_n 1, 1) := by decide +kernel
theorem dX5_findEnds_3 : decode cX5_findEnds 3 = .ok (.aload_n 0, 1) := by decide +kernel
theorem dX5_findEnds_4 : decode cX5_findEnds 4 = .ok (.getfield 57, 3) := by decide +kernel
theorem dX5_findEnds_7 : decode cX5_findEnds 7 = .ok (.if_icmp .ge 74, 3) := by decide +kernel
theorem dX5_findEnds_10 : decode cX5_findEnds 10 = .ok (.aload_n 0, 1) := by decide +kernel
theorem dX5_findEnds_11 : decode cX5_findEnds 11 = .ok (.aload_n 0, 1) := by decide +kernel
theorem dX5_findEnds_12 : decode cX5_findEnds 12 = .ok (.getfield 47, 3) := by decide +kernel
theorem dX5_findEnds_15 : decode cX5_findEnds 15 = .ok (.iload_n 1, 1) := by decide +kernel
theorem dX5_findEnds_16 : decode cX5_findEnds 16 = .ok (.iaload, 1) := by decide +kernel
theorem dX5_findEnds_17 : decode cX5_findEnds 17 = .ok (.aload_n 0, 1) := by decide +kernel
theorem dX5_findEnds_18 : decode cX5_findEnds 18 = .ok (.getfield 51, 3) := by decide +kernel
theorem dX5_findEnds_21 : decode cX5_findEnds 21 = .ok (.iload_n 1, 1) := by decide +kernel
theorem dX5_findEnds_22 : decode cX5_findEnds 22 = .ok (.iaload, 1) := by decide +kernel
theorem dX5_findEnds_23 : decode cX5_findEnds 23 = .ok (.invokevirtual 158, 3) := by decide +kernel
theorem dX5_findEnds_26 : decode cX5_findEnds 26 = .ok (.istore_n 2, 1) := by decide +kernel
theorem dX5_findEnds_27 : decode cX5_findEnds 27 = .ok (.iload_n 2, 1) := by decide +kernel
theorem dX5_findEnds_28 : decode cX5_findEnds 28 = .ok (.iconst (-1), 1) := by decide +kernel
theorem dX5_findEnds_29 : decode cX5_findEnds 29 = .ok (.if_icmp .ne 39, 3) := by decide +kernel
theorem dX5_findEnds_32 : decode cX5_findEnds 32 = .ok (.aload_n 0, 1) := by decide +kernel
theorem dX5_findEnds_33 : decode cX5_findEnds 33 = .ok (.getfield 12, 3) := by decide +kernel
theorem dX5_findEnds_36 : decode cX5_findEnds 36 = .ok (.getfield 81, 3) := by decide +kernel
theorem dX5_findEnds_39 : decode cX5_findEnds 39 = .ok (.aload_n 0, 1) := by decide +kernel
theorem dX5_findEnds_40 : decode cX5_findEnds 40 = .ok (.getfield 47, 3) := by decide +kernel
theorem dX5_findEnds_43 : decode cX5_findEnds 43 = .ok (.iload_n 1, 1) := by decide +kernel
theorem dX5_findEnds_44 : decode cX5_findEnds 44 = .ok (.iaload, 1) := by decide +kernel
theorem dX5_findEnds_45 : decode cX5_findEnds 45 = .ok (.iaload, 1) := by decide +kernel
theorem dX5_findEnds_46 : decode cX5_findEnds 46 = .ok (.istore_n 3, 1) := by decide +kernel
theorem dX5_findEnds_47 : decode cX5_findEnds 47 = .ok (.aload_n 0, 1) := by decide +kernel
theorem dX5_findEnds_48 : decode cX5_findEnds 48 = .ok (.getfield 35, 3) := by decide +kernel
theorem dX5_findEnds_51 : decode cX5_findEnds 51 = .ok (.iconst (-1), 1) := by decide +kernel
theorem dX5_findEnds_52 : decode cX5_findEnds 52 = .ok (.if_icmp .ne 7, 3) := by decide +kernel
theorem dX5_findEnds_55 : decode cX5_findEnds 55 = .ok (.iload_n 3, 1) := by decide +kernel
theorem dX5_findEnds_56 : decode cX5_findEnds 56 = .ok (.goto 11, 3) := by decide +kernel
theorem dX5_findEnds_59 : decode cX5_findEnds 59 = .ok (.iload_n 3, 1) := by decide +kernel
theorem dX5_findEnds_60 : decode cX5_findEnds 60 = .ok (.aload_n 0, 1) := by decide +kernel
theorem dX5_findEnds_61 : decode cX5_findEnds 61 = .ok (.getfield 35, 3) := by decide +kernel
theorem dX5_findEnds_64 : decode cX5_findEnds 64 = .ok (.invokestatic 162, 3) := by decide +kernel
theorem dX5_findEnds_67 : decode cX5_findEnds 67 = .ok (.ireturn, 1) := by decide +kernel
theorem dX5_findEnds_68 : decode cX5_findEnds 68 = .ok (.aload_n 0, 1) := by decide +kernel
theorem dX5_findEnds_69 : decode cX5_findEnds 69 = .ok (.getfield 51, 3) := by decide +kernel
theorem dX5_findEnds_72 : decode cX5_findEnds 72 = .ok (.iload_n 1, 1) := by decide +kernel
theorem dX5_findEnds_73 : decode cX5_findEnds 73 = .ok (.iload_n 2, 1) := by decide +kernel
theorem dX5_findEnds_74 : decode cX5_findEnds 74 = .ok (.iastore, 1) := by decide +kernel
theorem dX5_findEnds_75 : decode cX5_findEnds 75 = .ok (.iinc 1 1, 3) := by decide +kernel
theorem dX5_findEnds_78 : decode cX5_findEnds 78 = .ok (.goto (-76), 3) := by decide +kernel
theorem dX5_findEnds_81 : decode cX5_findEnds 81 = .ok (.aload_n 0, 1) := by decide +kernel
theorem dX5_findEnds_82 : decode cX5_findEnds 82 = .ok (.getfield 35, 3) := by decide +kernel
theorem dX5_findEnds_85 : decode cX5_findEnds 85 = .ok (.ireturn, 1) := by decide +kernel
theorem dX5_findEnd_0 : decode cX5_findEnd 0 = .ok (.aload_n 0, 1) := by decide +kernel
theorem dX5_findEnd_1 : decode cX5_findEnd 1 = .ok (.getfield 12, 3) := by decide +kernel
theorem dX5_findEnd_4 : decode cX5_findEnd 4 = .ok (.getfield 155, 3) := by decide +kernel
theorem dX5_findEnd_7 : decode cX5_findEnd 7 = .ok (.iload_n 1, 1) := by decide +kernel
theorem dX5_findEnd_8 : decode cX5_findEnd 8 = .ok (.iaload, 1) := by decide +kernel
theorem dX5_findEnd_9 : decode cX5_findEnd 9 = .ok (.iconst 1, 1) := by decide +kernel
theorem dX5_findEnd_10 : decode cX5_findEnd 10 = .ok (.if_icmp .eq 14, 3) := by decide +kernel
theorem dX5_findEnd_13 : decode cX5_findEnd 13 = .ok (.aload_n 0, 1) := by decide +kernel
theorem dX5_findEnd_14 : decode cX5_findEnd 14 = .ok (.getfield 21, 3) := by decide +kernel
theorem dX5_findEnd_17 : decode cX5_findEnd 17 = .ok (.iconst 5, 1) := by decide +kernel
theorem dX5_findEnd_18 : decode cX5_findEnd 18 = .ok (.iconst 0, 1) := by decide +kernel
theorem dX5_findEnd_19 : decode cX5_findEnd 19 = .ok (.iload_n 2, 1) := by decide +kernel
theorem dX5_findEnd_20 : decode cX5_findEnd 20 = .ok (.invokevirtual 167, 3) := by decide +kernel
theorem dX5_findEnd_23 : decode cX5_findEnd 23 = .ok (.ireturn, 1) := by decide +kernel
theorem dX5_findEnd_24 : decode cX5_findEnd 24 = .ok (.aload_n 0, 1) := by decide +kernel
theorem dX5_findEnd_25 : decode cX5_findEnd 25 = .ok (.getfield 21, 3) := by decide +kernel
theorem dX5_findEnd_28 : decode cX5_findEnd 28 = .ok (.aload_n 0, 1) := by decide +kernel
theorem dX5_findEnd_29 : decode cX5_findEnd 29 = .ok (.getfield 12, 3) := by decide +kernel
theorem dX5_findEnd_32 : decode cX5_findEnd 32 = .ok (.getfield 127, 3) := by decide +kernel
theorem dX5_findEnd_35 : decode cX5_findEnd 35 = .ok (.iload_n 1, 1) := by decide +kernel
theorem dX5_findEnd_36 : decode cX5_findEnd 36 = .ok (.laload, 1) := by decide +kernel
theorem dX5_findEnd_37 : decode cX5_findEnd 37 = .ok (.invokevirtual 131, 3) := by decide +kernel
theorem dX5_findEnd_40 : decode cX5_findEnd 40 = .ok (.istore_n 3, 1) := by decide +kernel
theorem dX5_findEnd_41 : decode cX5_findEnd 41 = .ok (.iload_n 3, 1) := by decide +kernel
theorem dX5_findEnd_42 : decode cX5_findEnd 42 = .ok (.iconst (-1), 1) := by decide +kernel
theorem dX5_findEnd_43 : decode cX5_findEnd 43 = .ok (.if_icmp .ne 5, 3) := by decide +kernel
theorem dX5_findEnd_46 : decode cX5_findEnd 46 = .ok (.iconst (-1), 1) := by decide +kernel
theorem dX5_findEnd_47 : decode cX5_findEnd 47 = .ok (.ireturn, 1) := by decide +kernel
theorem dX5_findEnd_48 : decode cX5_findEnd 48 = .ok (.iload_n 3, 1) := by decide +kernel
theorem dX5_findEnd_49 : decode cX5_findEnd 49 = .ok (.bipush 40, 2) := by decide +kernel
theorem dX5_findEnd_51 : decode cX5_findEnd 51 = .ok (.idiv, 1) := by decide +kernel
theorem dX5_findEnd_52 : decode cX5_findEnd 52 = .ok (.istore 4, 2) := by decide +kernel
theorem dX5_findEnd_54 : decode cX5_findEnd 54 = .ok (.iload_n 3, 1) := by decide +kernel
theorem dX5_findEnd_55 : decode cX5_findEnd 55 = .ok (.bipush 40, 2) := by decide +kernel
theorem dX5_findEnd_57 : decode cX5_findEnd 57 = .ok (.irem, 1) := by decide +kernel
theorem dX5_findEnd_58 : decode cX5_findEnd 58 = .ok (.istore 5, 2) := by decide +kernel
theorem dX5_findEnd_60 : decode cX5_findEnd 60 = .ok (.iload 4, 2) := by decide +kernel
theorem dX5_findEnd_62 : decode cX5_findEnd 62 = .ok (.ifCond .ne 15, 3) := by decide +kernel
theorem dX5_findEnd_65 : decode cX5_findEnd 65 = .ok (.aload_n 0, 1) := by decide +kernel
theorem dX5_findEnd_66 : decode cX5_findEnd 66 = .ok (.getfield 21, 3) := by decide +kernel
theorem dX5_findEnd_69 : decode cX5_findEnd 69 = .ok (.iconst 0, 1) := by decide +kernel
theorem dX5_findEnd_70 : decode cX5_findEnd 70 = .ok (.iload 5, 2) := by decide +kernel
theorem dX5_findEnd_72 : decode cX5_findEnd 72 = .ok (.iload_n 2, 1) := by decide +kernel
theorem dX5_findEnd_73 : decode cX5_findEnd 73 = .ok (.invokevirtual 167, 3) := by decide +kernel
theorem dX5_findEnd_76 : decode cX5_findEnd 76 = .ok (.ireturn, 1) := by decide +kernel
theorem dX5_findEnd_77 : decode cX5_findEnd 77 = .ok (.iload_n 2, 1) := by decide +kernel
theorem dX5_findEnd_78 : decode cX5_findEnd 78 = .ok (.iconst 2, 1) := by decide +kernel
theorem dX5_findEnd_79 : decode cX5_findEnd 79 = .ok (.if_icmp .ne 16, 3) := by decide +kernel
theorem dX5_findEnd_82 : decode cX5_findEnd 82 = .ok (.aload_n 0, 1) := by decide +kernel
theorem dX5_findEnd_83 : decode cX5_findEnd 83 = .ok (.getfield 21, 3) := by decide +kernel
theorem dX5_findEnd_86 : decode cX5_findEnd 86 = .ok (.iload 4, 2) := by decide +kernel
theorem dX5_findEnd_88 : decode cX5_findEnd 88 = .ok (.iload 5, 2) := by decide +kernel
theorem dX5_findEnd_90 : decode cX5_findEnd 90 = .ok (.iconst 0, 1) := by decide +kernel
theorem dX5_findEnd_91 : decode cX5_findEnd 91 = .ok (.invokevirtual 167, 3) := by decide +kernel
theorem dX5_findEnd_94 : decode cX5_findEnd 94 = .ok (.ireturn, 1) := by decide +kernel
theorem dX5_findEnd_95 : decode cX5_findEnd 95 = .ok (.iload_n 2, 1) := by decide +kernel
theorem dX5_findEnd_96 : decode cX5_findEnd 96 = .ok (.iconst 5, 1) := by decide +kernel
theorem dX5_findEnd_97 : decode cX5_findEnd 97 = .ok (.if_icmp .ne 18, 3) := by decide +kernel
theorem dX5_findEnd_100 : decode cX5_findEnd 100 = .ok (.aload_n 0, 1) := by decide +kernel
theorem dX5_findEnd_101 : decode cX5_findEnd 101 = .ok (.getfield 21, 3) := by decide +kernel
theorem dX5_findEnd_104 : decode cX5_findEnd 104 = .ok (.iload 4, 2) := by decide +kernel
theorem dX5_findEnd_106 : decode cX5_findEnd 106 = .ok (.iload 5, 2) := by decide +kernel
theorem dX5_findEnd_108 : decode cX5_findEnd 108 = .ok (.iconst 1, 1) := by decide +kernel
theorem dX5_findEnd_109 : decode cX5_findEnd 109 = .ok (.invokevirtual 167, 3) := by decide +kernel
theorem dX5_findEnd_112 : decode cX5_findEnd 112 = .ok (.goto 4, 3) := by decide +kernel
theorem dX5_findEnd_115 : decode cX5_findEnd 115 = .ok (.iconst (-1), 1) := by decide +kernel
theorem dX5_findEnd_116 : decode cX5_findEnd 116 = .ok (.ireturn, 1) := by decide +kernel
theorem dX5_joinWires_0 : decode cX5_joinWires 0 = .ok (.iconst 0, 1) := by decide +kernel
theorem dX5_joinWires_1 : decode cX5_joinWires 1 = .ok (.istore_n 1, 1) := by decide +kernel
theorem dX5_joinWires_2 : decode cX5_joinWires 2 = .ok (.iload_n 1, 1) := by decide +kernel
theorem dX5_joinWires_3 : decode cX5_joinWires 3 = .ok (.aload_n 0, 1) := by decide +kernel
theorem dX5_joinWires_4 : decode cX5_joinWires 4 = .ok (.getfield 57, 3) := by decide +kernel
theorem dX5_joinWires_7 : decode cX5_joinWires 7 = .ok (.if_icmp .ge 70, 3) := by decide +kernel
theorem dX5_joinWires_10 : decode cX5_joinWires 10 = .ok (.iload_n 1, 1) := by decide +kernel
theorem dX5_joinWires_11 : decode cX5_joinWires 11 = .ok (.ifCond .eq 20, 3) := by decide +kernel
theorem dX5_joinWires_14 : decode cX5_joinWires 14 = .ok (.aload_n 0, 1) := by decide +kernel
theorem dX5_joinWires_15 : decode cX5_joinWires 15 = .ok (.getfield 54, 3) := by decide +kernel
theorem dX5_joinWires_18 : decode cX5_joinWires 18 = .ok (.iload_n 1, 1) := by decide +kernel
theorem dX5_joinWires_19 : decode cX5_joinWires 19 = .ok (.iaload, 1) := by decide +kernel
theorem dX5_joinWires_20 : decode cX5_joinWires 20 = .ok (.aload_n 0, 1) := by decide +kernel
theorem dX5_joinWires_21 : decode cX5_joinWires 21 = .ok (.getfield 54, 3) := by decide +kernel
theorem dX5_joinWires_24 : decode cX5_joinWires 24 = .ok (.iload_n 1, 1) := by decide +kernel
theorem dX5_joinWires_25 : decode cX5_joinWires 25 = .ok (.iconst 1, 1) := by decide +kernel
theorem dX5_joinWires_26 : decode cX5_joinWires 26 = .ok (.isub, 1) := by decide +kernel
theorem dX5_joinWires_27 : decode cX5_joinWires 27 = .ok (.iaload, 1) := by decide +kernel
theorem dX5_joinWires_28 : decode cX5_joinWires 28 = .ok (.if_icmp .eq 7, 3) := by decide +kernel
theorem dX5_joinWires_31 : decode cX5_joinWires 31 = .ok (.iconst 1, 1) := by decide +kernel
theorem dX5_joinWires_32 : decode cX5_joinWires 32 = .ok (.goto 4, 3) := by decide +kernel
theorem dX5_joinWires_35 : decode cX5_joinWires 35 = .ok (.iconst 0, 1) := by decide +kernel
theorem dX5_joinWires_36 : decode cX5_joinWires 36 = .ok (.istore_n 2, 1) := by decide +kernel
theorem dX5_joinWires_37 : decode cX5_joinWires 37 = .ok (.aload_n 0, 1) := by decide +kernel
theorem dX5_joinWires_38 : decode cX5_joinWires 38 = .ok (.getfield 21, 3) := by decide +kernel
theorem dX5_joinWires_41 : decode cX5_joinWires 41 = .ok (.iload_n 2, 1) := by decide +kernel
theorem dX5_joinWires_42 : decode cX5_joinWires 42 = .ok (.ifCond .eq 12, 3) := by decide +kernel
theorem dX5_joinWires_45 : decode cX5_joinWires 45 = .ok (.aload_n 0, 1) := by decide +kernel
theorem dX5_joinWires_46 : decode cX5_joinWires 46 = .ok (.getfield 51, 3) := by decide +kernel
theorem dX5_joinWires_49 : decode cX5_joinWires 49 = .ok (.iload_n 1, 1) := by decide +kernel
theorem dX5_joinWires_50 : decode cX5_joinWires 50 = .ok (.iaload, 1) := by decide +kernel
theorem dX5_joinWires_51 : decode cX5_joinWires 51 = .ok (.goto 11, 3) := by decide +kernel
theorem dX5_joinWires_54 : decode cX5_joinWires 54 = .ok (.aload_n 0, 1) := by decide +kernel
theorem dX5_joinWires_55 : decode cX5_joinWires 55 = .ok (.getfield 51, 3) := by decide +kernel
theorem dX5_joinWires_58 : decode cX5_joinWires 58 = .ok (.iload_n 1, 1) := by decide +kernel
theorem dX5_joinWires_59 : decode cX5_joinWires 59 = .ok (.iconst 1, 1) := by decide +kernel
theorem dX5_joinWires_60 : decode cX5_joinWires 60 = .ok (.isub, 1) := by decide +kernel
theorem dX5_joinWires_61 : decode cX5_joinWires 61 = .ok (.iaload, 1) := by decide +kernel
theorem dX5_joinWires_62 : decode cX5_joinWires 62 = .ok (.aload_n 0, 1) := by decide +kernel
theorem dX5_joinWires_63 : decode cX5_joinWires 63 = .ok (.getfield 51, 3) := by decide +kernel
theorem dX5_joinWires_66 : decode cX5_joinWires 66 = .ok (.iload_n 1, 1) := by decide +kernel
theorem dX5_joinWires_67 : decode cX5_joinWires 67 = .ok (.iaload, 1) := by decide +kernel
theorem dX5_joinWires_68 : decode cX5_joinWires 68 = .ok (.invokevirtual 171, 3) := by decide +kernel
theorem dX5_joinWires_71 : decode cX5_joinWires 71 = .ok (.iinc 1 1, 3) := by decide +kernel
theorem dX5_joinWires_74 : decode cX5_joinWires 74 = .ok (.goto (-72), 3) := by decide +kernel
theorem dX5_joinWires_77 : decode cX5_joinWires 77 = .ok (.return_, 1) := by decide +kernel
theorem dX6_init_0 : decode cX6_init 0 = .ok (.aload_n 0, 1) := by decide +kernel
theorem dX6_init_1 : decode cX6_init 1 = .ok (.invokespecial 3, 3) := by decide +kernel
theorem dX6_init_4 : decode cX6_init 4 = .ok (.aload_n 0, 1) := by decide +kernel
theorem dX6_init_5 : decode cX6_init 5 = .ok (.lconst 0, 1) := by decide +kernel
theorem dX6_init_6 : decode cX6_init 6 = .ok (.putfield 9, 3) := by decide +kernel
theorem dX6_init_9 : decode cX6_init 9 = .ok (.aload_n 0, 1) := by decide +kernel
theorem dX6_init_10 : decode cX6_init 10 = .ok (.bipush 40, 2) := by decide +kernel
theorem dX6_init_12 : decode cX6_init 12 = .ok (.newarray .int, 2) := by decide +kernel
theorem dX6_init_14 : decode cX6_init 14 = .ok (.putfield 15, 3) := by decide +kernel
theorem dX6_init_17 : decode cX6_init 17 = .ok (.aload_n 0, 1) := by decide +kernel
theorem dX6_init_18 : decode cX6_init 18 = .ok (.bipush 40, 2) := by decide +kernel
theorem dX6_init_20 : decode cX6_init 20 = .ok (.newarray .int, 2) := by decide +kernel
theorem dX6_init_22 : decode cX6_init 22 = .ok (.putfield 19, 3) := by decide +kernel
theorem dX6_init_25 : decode cX6_init 25 = .ok (.aload_n 0, 1) := by decide +kernel
theorem dX6_init_26 : decode cX6_init 26 = .ok (.iconst 0, 1) := by decide +kernel
theorem dX6_init_27 : decode cX6_init 27 = .ok (.putfield 22, 3) := by decide +kernel
theorem dX6_init_30 : decode cX6_init 30 = .ok (.aload_n 0, 1) := by decide +kernel
theorem dX6_init_31 : decode cX6_init 31 = .ok (.iconst 0, 1) := by decide +kernel
theorem dX6_init_32 : decode cX6_init 32 = .ok (.putfield 26, 3) := by decide +kernel
theorem dX6_init_35 : decode cX6_init 35 = .ok (.return_, 1) := by decide +kernel
theorem dX6_clear_0 : decode cX6_clear 0 = .ok (.aload_n 0, 1) := by decide +kernel
theorem dX6_clear_1 : decode cX6_clear 1 = .ok (.lconst 0, 1) := by decide +kernel
theorem dX6_clear_2 : decode cX6_clear 2 = .ok (.putfield 9, 3) := by decide +kernel
theorem dX6_clear_5 : decode cX6_clear 5 = .ok (.aload_n 0, 1) := by decide +kernel
theorem dX6_clear_6 : decode cX6_clear 6 = .ok (.iconst 0, 1) := by decide +kernel
theorem dX6_clear_7 : decode cX6_clear 7 = .ok (.putfield 22, 3) := by decide +kernel
theorem dX6_clear_10 : decode cX6_clear 10 = .ok (.aload_n 0, 1) := by decide +kernel
theorem dX6_clear_11 : decode cX6_clear 11 = .ok (.iconst 0, 1) := by decide +kernel
theorem dX6_clear_12 : decode cX6_clear 12 = .ok (.putfield 26, 3) := by decide +kernel
theorem dX6_clear_15 : decode cX6_clear 15 = .ok (.iconst 0, 1) := by decide +kernel
theorem dX6_clear_16 : decode cX6_clear 16 = .ok (.istore_n 1, 1) := by decide +kernel
theorem dX6_clear_17 : decode cX6_clear 17 = .ok (.iload_n 1, 1) := by decide +kernel
theorem dX6_clear_18 : decode cX6_clear 18 = .ok (.bipush 40, 2) := by decide +kernel
theorem dX6_clear_20 : decode cX6_clear 20 = .ok (.if_icmp .ge 23, 3) := by decide +kernel
theorem dX6_clear_23 : decode cX6_clear 23 = .ok (.aload_n 0, 1) := by decide +kernel
theorem dX6_clear_24 : decode cX6_clear 24 = .ok (.getfield 15, 3) := by decide +kernel
theorem dX6_clear_27 : decode cX6_clear 27 = .ok (.iload_n 1, 1) := by decide +kernel
theorem dX6_clear_28 : decode cX6_clear 28 = .ok (.iconst 0, 1) := by decide +kernel
theorem dX6_clear_29 : decode cX6_clear 29 = .ok (.iastore, 1) := by decide +kernel
theorem dX6_clear_30 : decode cX6_clear 30 = .ok (.aload_n 0, 1) := by decide +kernel
theorem dX6_clear_31 : decode cX6_clear 31 = .ok (.getfield 19, 3) := by decide +kernel
theorem dX6_clear_34 : decode cX6_clear 34 = .ok (.iload_n 1, 1) := by decide +kernel
theorem dX6_clear_35 : decode cX6_clear 35 = .ok (.iconst 0, 1) := by decide +kernel
theorem dX6_clear_36 : decode cX6_clear 36 = .ok (.iastore, 1) := by decide +kernel
theorem dX6_clear_37 : decode cX6_clear 37 = .ok (.iinc 1 1, 3) := by decide +kernel
theorem dX6_clear_40 : decode cX6_clear 40 = .ok (.goto (-23), 3) := by decide +kernel
theorem dX6_clear_43 : decode cX6_clear 43 = .ok (.return_, 1) := by decide +kernel
theorem dX6_copy_0 : decode cX6_copy 0 = .ok (.aload_n 0, 1) := by decide +kernel
theorem dX6_copy_1 : decode cX6_copy 1 = .ok (.aload_n 1, 1) := by decide +kernel
theorem dX6_copy_2 : decode cX6_copy 2 = .ok (.getfield 9, 3) := by decide +kernel
theorem dX6_copy_5 : decode cX6_copy 5 = .ok (.putfield 9, 3) := by decide +kernel
theorem dX6_copy_8 : decode cX6_copy 8 = .ok (.aload_n 0, 1) := by decide +kernel
theorem dX6_copy_9 : decode cX6_copy 9 = .ok (.aload_n 1, 1) := by decide +kernel
theorem dX6_copy_10 : decode cX6_copy 10 = .ok (.getfield 22, 3) := by decide +kernel
theorem dX6_copy_13 : decode cX6_copy 13 = .ok (.putfield 22, 3) := by decide +kernel
theorem dX6_copy_16 : decode cX6_copy 16 = .ok (.aload_n 0, 1) := by decide +kernel
theorem dX6_copy_17 : decode cX6_copy 17 = .ok (.aload_n 1, 1) := by decide +kernel
theorem dX6_copy_18 : decode cX6_copy 18 = .ok (.getfield 26, 3) := by decide +kernel
theorem dX6_copy_21 : decode cX6_copy 21 = .ok (.putfield 26, 3) := by decide +kernel
theorem dX6_copy_24 : decode cX6_copy 24 = .ok (.aload_n 1, 1) := by decide +kernel
theorem dX6_copy_25 : decode cX6_copy 25 = .ok (.getfield 15, 3) := by decide +kernel
theorem dX6_copy_28 : decode cX6_copy 28 = .ok (.iconst 0, 1) := by decide +kernel
theorem dX6_copy_29 : decode cX6_copy 29 = .ok (.aload_n 0, 1) := by decide +kernel
theorem dX6_copy_30 : decode cX6_copy 30 = .ok (.getfield 15, 3) := by decide +kernel
theorem dX6_copy_33 : decode cX6_copy 33 = .ok (.iconst 0, 1) := by decide +kernel
theorem dX6_copy_34 : decode cX6_copy 34 = .ok (.bipush 40, 2) := by decide +kernel
theorem dX6_copy_36 : decode cX6_copy 36 = .ok (.invokestatic 29, 3) := by decide +kernel
theorem dX6_copy_39 : decode cX6_copy 39 = .ok (.aload_n 1, 1) := by decide +kernel
theorem dX6_copy_40 : decode cX6_copy 40 = .ok (.getfield 19, 3) := by decide +kernel
theorem dX6_copy_43 : decode cX6_copy 43 = .ok (.iconst 0, 1) := by decide +kernel
theorem dX6_copy_44 : decode cX6_copy 44 = .ok (.aload_n 0, 1) := by decide +kernel
theorem dX6_copy_45 : decode cX6_copy 45 = .ok (.getfield 19, 3) := by decide +kernel
theorem dX6_copy_48 : decode cX6_copy 48 = .ok (.iconst 0, 1) := by decide +kernel
theorem dX6_copy_49 : decode cX6_copy 49 = .ok (.bipush 40, 2) := by decide +kernel
theorem dX6_copy_51 : decode cX6_copy 51 = .ok (.invokestatic 29, 3) := by decide +kernel
theorem dX6_copy_54 : decode cX6_copy 54 = .ok (.return_, 1) := by decide +kernel
theorem dX6_isPicked_0 : decode cX6_isPicked 0 = .ok (.aload_n 0, 1) := by decide +kernel
theorem dX6_isPicked_1 : decode cX6_isPicked 1 = .ok (.getfield 9, 3) := by decide +kernel
theorem dX6_isPicked_4 : decode cX6_isPicked 4 = .ok (.iload_n 1, 1) := by decide +kernel
theorem dX6_isPicked_5 : decode cX6_isPicked 5 = .ok (.lshr, 1) := by decide +kernel
theorem dX6_isPicked_6 : decode cX6_isPicked 6 = .ok (.lconst 1, 1) := by decide +kernel
theorem dX6_isPicked_7 : decode cX6_isPicked 7 = .ok (.land, 1) := by decide +kernel
theorem dX6_isPicked_8 : decode cX6_isPicked 8 = .ok (.lconst 0, 1) := by decide +kernel
theorem dX6_isPicked_9 : decode cX6_isPicked 9 = .ok (.lcmp, 1) := by decide +kernel
theorem dX6_isPicked_10 : decode cX6_isPicked 10 = .ok (.ifCond .eq 7, 3) := by decide +kernel
theorem dX6_isPicked_13 : decode cX6_isPicked 13 = .ok (.iconst 1, 1) := by decide +kernel
theorem dX6_isPicked_14 : decode cX6_isPicked 14 = .ok (.goto 4, 3) := by decide +kernel
theorem dX6_isPicked_17 : decode cX6_isPicked 17 = .ok (.iconst 0, 1) := by decide +kernel
theorem dX6_isPicked_18 : decode cX6_isPicked 18 = .ok (.ireturn, 1) := by decide +kernel
theorem dX6_isDown_0 : decode cX6_isDown 0 = .ok (.aload_n 0, 1) := by decide +kernel
theorem dX6_isDown_1 : decode cX6_isDown 1 = .ok (.getfield 22, 3) := by decide +kernel
theorem dX6_isDown_4 : decode cX6_isDown 4 = .ok (.iload_n 1, 1) := by decide +kernel
theorem dX6_isDown_5 : decode cX6_isDown 5 = .ok (.ishr, 1) := by decide +kernel
theorem dX6_isDown_6 : decode cX6_isDown 6 = .ok (.iconst 1, 1) := by decide +kernel
theorem dX6_isDown_7 : decode cX6_isDown 7 = .ok (.iand, 1) := by decide +kernel
theorem dX6_isDown_8 : decode cX6_isDown 8 = .ok (.ifCond .eq 7, 3) := by decide +kernel
theorem dX6_isDown_11 : decode cX6_isDown 11 = .ok (.iconst 1, 1) := by decide +kernel
theorem dX6_isDown_12 : decode cX6_isDown 12 = .ok (.goto 4, 3) := by decide +kernel
theorem dX6_isDown_15 : decode cX6_isDown 15 = .ok (.iconst 0, 1) := by decide +kernel
theorem dX6_isDown_16 : decode cX6_isDown 16 = .ok (.ireturn, 1) := by decide +kernel
theorem dX6_goOver_0 : decode cX6_goOver 0 = .ok (.aload_n 0, 1) := by decide +kernel
theorem dX6_goOver_1 : decode cX6_goOver 1 = .ok (.dup, 1) := by decide +kernel
theorem dX6_goOver_2 : decode cX6_goOver 2 = .ok (.getfield 9, 3) := by decide +kernel
theorem dX6_goOver_5 : decode cX6_goOver 5 = .ok (.lconst 1, 1) := by decide +kernel
theorem dX6_goOver_6 : decode cX6_goOver 6 = .ok (.iload_n 1, 1) := by decide +kernel
theorem dX6_goOver_7 : decode cX6_goOver 7 = .ok (.lshl, 1) := by decide +kernel
theorem dX6_goOver_8 : decode cX6_goOver 8 = .ok (.lxor, 1) := by decide +kernel
theorem dX6_goOver_9 : decode cX6_goOver 9 = .ok (.putfield 9, 3) := by decide +kernel
theorem dX6_goOver_12 : decode cX6_goOver 12 = .ok (.aload_n 0, 1) := by decide +kernel
theorem dX6_goOver_13 : decode cX6_goOver 13 = .ok (.getfield 15, 3) := by decide +kernel
theorem dX6_goOver_16 : decode cX6_goOver 16 = .ok (.iload_n 1, 1) := by decide +kernel
theorem dX6_goOver_17 : decode cX6_goOver 17 = .ok (.iconst 0, 1) := by decide +kernel
theorem dX6_goOver_18 : decode cX6_goOver 18 = .ok (.iastore, 1) := by decide +kernel
theorem dX6_goOver_19 : decode cX6_goOver 19 = .ok (.return_, 1) := by decide +kernel
theorem dX6_moveContacts_0 : decode cX6_moveContacts 0 = .ok (.aload_n 0, 1) := by decide +kernel
theorem dX6_moveContacts_1 : decode cX6_moveContacts 1 = .ok (.iload_n 1, 1) := by decide +kernel
theorem dX6_moveContacts_2 : decode cX6_moveContacts 2 = .ok (.invokevirtual 35, 3) := by decide +kernel
theorem dX6_moveContacts_5 : decode cX6_moveContacts 5 = .ok (.ifCond .eq 24, 3) := by decide +kernel
theorem dX6_moveContacts_8 : decode cX6_moveContacts 8 = .ok (.aload_n 0, 1) := by decide +kernel
theorem dX6_moveContacts_9 : decode cX6_moveContacts 9 = .ok (.getfield 19, 3) := by decide +kernel
theorem dX6_moveContacts_12 : decode cX6_moveContacts 12 = .ok (.iload_n 1, 1) := by decide +kernel
theorem dX6_moveContacts_13 : decode cX6_moveContacts 13 = .ok (.iconst 2, 1) := by decide +kernel
theorem dX6_moveContacts_14 : decode cX6_moveContacts 14 = .ok (.aload_n 0, 1) := by decide +kernel
theorem dX6_moveContacts_15 : decode cX6_moveContacts 15 = .ok (.getfield 19, 3) := by decide +kernel
theorem dX6_moveContacts_18 : decode cX6_moveContacts 18 = .ok (.iload_n 1, 1) := by decide +kernel
theorem dX6_moveContacts_19 : decode cX6_moveContacts 19 = .ok (.iaload, 1) := by decide +kernel
theorem dX6_moveContacts_20 : decode cX6_moveContacts 20 = .ok (.iconst 1, 1) := by decide +kernel
theorem dX6_moveContacts_21 : decode cX6_moveContacts 21 = .ok (.iadd, 1) := by decide +kernel
theorem dX6_moveContacts_22 : decode cX6_moveContacts 22 = .ok (.invokestatic 39, 3) := by decide +kernel
theorem dX6_moveContacts_25 : decode cX6_moveContacts 25 = .ok (.iastore, 1) := by decide +kernel
theorem dX6_moveContacts_26 : decode cX6_moveContacts 26 = .ok (.goto 21, 3) := by decide +kernel
theorem dX6_moveContacts_29 : decode cX6_moveContacts 29 = .ok (.aload_n 0, 1) := by decide +kernel
theorem dX6_moveContacts_30 : decode cX6_moveContacts 30 = .ok (.getfield 19, 3) := by decide +kernel
theorem dX6_moveContacts_33 : decode cX6_moveContacts 33 = .ok (.iload_n 1, 1) := by decide +kernel
theorem dX6_moveContacts_34 : decode cX6_moveContacts 34 = .ok (.iconst 0, 1) := by decide +kernel
theorem dX6_moveContacts_35 : decode cX6_moveContacts 35 = .ok (.aload_n 0, 1) := by decide +kernel
theorem dX6_moveContacts_36 : decode cX6_moveContacts 36 = .ok (.getfield 19, 3) := by decide +kernel
theorem dX6_moveContacts_39 : decode cX6_moveContacts 39 = .ok (.iload_n 1, 1) := by decide +kernel
theorem dX6_moveContacts_40 : decode cX6_moveContacts 40 = .ok (.iaload, 1) := by decide +kernel
theorem dX6_moveContacts_41 : decode cX6_moveContacts 41 = .ok (.iconst 1, 1) := by decide +kernel
theorem dX6_moveContacts_42 : decode cX6_moveContacts 42 = .ok (.isub, 1) := by decide +kernel
theorem dX6_moveContacts_43 : decode cX6_moveContacts 43 = .ok (.invokestatic 45, 3) := by decide +kernel
theorem dX6_moveContacts_46 : decode cX6_moveContacts 46 = .ok (.iastore, 1) := by decide +kernel
theorem dX6_moveContacts_47 : decode cX6_moveContacts 47 = .ok (.return_, 1) := by decide +kernel
theorem dX6_restsAs_0 : decode cX6_restsAs 0 = .ok (.aload_n 0, 1) := by decide +kernel
theorem dX6_restsAs_1 : decode cX6_restsAs 1 = .ok (.getfield 9, 3) := by decide +kernel
theorem dX6_restsAs_4 : decode cX6_restsAs 4 = .ok (.aload_n 1, 1) := by decide +kernel
theorem dX6_restsAs_5 : decode cX6_restsAs 5 = .ok (.getfield 9, 3) := by decide +kernel
theorem dX6_restsAs_8 : decode cX6_restsAs 8 = .ok (.lcmp, 1) := by decide +kernel
theorem dX6_restsAs_9 : decode cX6_restsAs 9 = .ok (.ifCond .eq 5, 3) := by decide +kernel
theorem dX6_restsAs_12 : decode cX6_restsAs 12 = .ok (.iconst 0, 1) := by decide +kernel
theorem dX6_restsAs_13 : decode cX6_restsAs 13 = .ok (.ireturn, 1) := by decide +kernel
theorem dX6_restsAs_14 : decode cX6_restsAs 14 = .ok (.iconst 0, 1) := by decide +kernel
theorem dX6_restsAs_15 : decode cX6_restsAs 15 = .ok (.istore_n 2, 1) := by decide +kernel
theorem dX6_restsAs_16 : decode cX6_restsAs 16 = .ok (.iload_n 2, 1) := by decide +kernel
theorem dX6_restsAs_17 : decode cX6_restsAs 17 = .ok (.bipush 40, 2) := by decide +kernel
theorem dX6_restsAs_19 : decode cX6_restsAs 19 = .ok (.if_icmp .ge 41, 3) := by decide +kernel
theorem dX6_restsAs_22 : decode cX6_restsAs 22 = .ok (.aload_n 0, 1) := by decide +kernel
theorem dX6_restsAs_23 : decode cX6_restsAs 23 = .ok (.getfield 15, 3) := by decide +kernel
theorem dX6_restsAs_26 : decode cX6_restsAs 26 = .ok (.iload_n 2, 1) := by decide +kernel
theorem dX6_restsAs_27 : decode cX6_restsAs 27 = .ok (.iaload, 1) := by decide +kernel
theorem dX6_restsAs_28 : decode cX6_restsAs 28 = .ok (.aload_n 1, 1) := by decide +kernel
theorem dX6_restsAs_29 : decode cX6_restsAs 29 = .ok (.getfield 15, 3) := by decide +kernel
theorem dX6_restsAs_32 : decode cX6_restsAs 32 = .ok (.iload_n 2, 1) := by decide +kernel
theorem dX6_restsAs_33 : decode cX6_restsAs 33 = .ok (.iaload, 1) := by decide +kernel
theorem dX6_restsAs_34 : decode cX6_restsAs 34 = .ok (.if_icmp .ne 18, 3) := by decide +kernel
theorem dX6_restsAs_37 : decode cX6_restsAs 37 = .ok (.aload_n 0, 1) := by decide +kernel
theorem dX6_restsAs_38 : decode cX6_restsAs 38 = .ok (.getfield 19, 3) := by decide +kernel
theorem dX6_restsAs_41 : decode cX6_restsAs 41 = .ok (.iload_n 2, 1) := by decide +kernel
theorem dX6_restsAs_42 : decode cX6_restsAs 42 = .ok (.iaload, 1) := by decide +kernel
theorem dX6_restsAs_43 : decode cX6_restsAs 43 = .ok (.aload_n 1, 1) := by decide +kernel
theorem dX6_restsAs_44 : decode cX6_restsAs 44 = .ok (.getfield 19, 3) := by decide +kernel
theorem dX6_restsAs_47 : decode cX6_restsAs 47 = .ok (.iload_n 2, 1) := by decide +kernel
theorem dX6_restsAs_48 : decode cX6_restsAs 48 = .ok (.iaload, 1) := by decide +kernel
theorem dX6_restsAs_49 : decode cX6_restsAs 49 = .ok (.if_icmp .eq 5, 3) := by decide +kernel
theorem dX6_restsAs_52 : decode cX6_restsAs 52 = .ok (.iconst 0, 1) := by decide +kernel
theorem dX6_restsAs_53 : decode cX6_restsAs 53 = .ok (.ireturn, 1) := by decide +kernel
theorem dX6_restsAs_54 : decode cX6_restsAs 54 = .ok (.iinc 2 1, 3) := by decide +kernel
theorem dX6_restsAs_57 : decode cX6_restsAs 57 = .ok (.goto (-41), 3) := by decide +kernel
theorem dX6_restsAs_60 : decode cX6_restsAs 60 = .ok (.iconst 1, 1) := by decide +kernel
theorem dX6_restsAs_61 : decode cX6_restsAs 61 = .ok (.ireturn, 1) := by decide +kernel
theorem dX7_init_0 : decode cX7_init 0 = .ok (.aload_n 0, 1) := by decide +kernel
theorem dX7_init_1 : decode cX7_init 1 = .ok (.invokespecial 3, 3) := by decide +kernel
theorem dX7_init_4 : decode cX7_init 4 = .ok (.aload_n 0, 1) := by decide +kernel
theorem dX7_init_5 : decode cX7_init 5 = .ok (.sipush 4000, 3) := by decide +kernel
theorem dX7_init_8 : decode cX7_init 8 = .ok (.newarray .byte, 2) := by decide +kernel
theorem dX7_init_10 : decode cX7_init 10 = .ok (.putfield 9, 3) := by decide +kernel
theorem dX7_init_13 : decode cX7_init 13 = .ok (.aload_n 0, 1) := by decide +kernel
theorem dX7_init_14 : decode cX7_init 14 = .ok (.iconst 0, 1) := by decide +kernel
theorem dX7_init_15 : decode cX7_init 15 = .ok (.putfield 15, 3) := by decide +kernel
theorem dX7_init_18 : decode cX7_init 18 = .ok (.aload_n 0, 1) := by decide +kernel
theorem dX7_init_19 : decode cX7_init 19 = .ok (.sipush 4001, 3) := by decide +kernel
theorem dX7_init_22 : decode cX7_init 22 = .ok (.newarray .int, 2) := by decide +kernel
theorem dX7_init_24 : decode cX7_init 24 = .ok (.putfield 19, 3) := by decide +kernel
theorem dX7_init_27 : decode cX7_init 27 = .ok (.aload_n 0, 1) := by decide +kernel
theorem dX7_init_28 : decode cX7_init 28 = .ok (.sipush 4001, 3) := by decide +kernel
theorem dX7_init_31 : decode cX7_init 31 = .ok (.newarray .int, 2) := by decide +kernel
theorem dX7_init_33 : decode cX7_init 33 = .ok (.putfield 23, 3) := by decide +kernel
theorem dX7_init_36 : decode cX7_init 36 = .ok (.aload_n 0, 1) := by decide +kernel
theorem dX7_init_37 : decode cX7_init 37 = .ok (.sipush 4001, 3) := by decide +kernel
theorem dX7_init_40 : decode cX7_init 40 = .ok (.newarray .long, 2) := by decide +kernel
theorem dX7_init_42 : decode cX7_init 42 = .ok (.putfield 26, 3) := by decide +kernel
theorem dX7_init_45 : decode cX7_init 45 = .ok (.aload_n 0, 1) := by decide +kernel
theorem dX7_init_46 : decode cX7_init 46 = .ok (.iconst 0, 1) := by decide +kernel
theorem dX7_init_47 : decode cX7_init 47 = .ok (.putfield 30, 3) := by decide +kernel
theorem dX7_init_50 : decode cX7_init 50 = .ok (.return_, 1) := by decide +kernel
theorem dX7_copy_0 : decode cX7_copy 0 = .ok (.aload_n 0, 1) := by decide +kernel
theorem dX7_copy_1 : decode cX7_copy 1 = .ok (.iconst 0, 1) := by decide +kernel
theorem dX7_copy_2 : decode cX7_copy 2 = .ok (.iload_n 2, 1) := by decide +kernel
theorem dX7_copy_3 : decode cX7_copy 3 = .ok (.aload_n 1, 1) := by decide +kernel
theorem dX7_copy_4 : decode cX7_copy 4 = .ok (.arraylength, 1) := by decide +kernel
theorem dX7_copy_5 : decode cX7_copy 5 = .ok (.sipush 4000, 3) := by decide +kernel
theorem dX7_copy_8 : decode cX7_copy 8 = .ok (.invokestatic 33, 3) := by decide +kernel
theorem dX7_copy_11 : decode cX7_copy 11 = .ok (.invokestatic 33, 3) := by decide +kernel
theorem dX7_copy_14 : decode cX7_copy 14 = .ok (.invokestatic 39, 3) := by decide +kernel
theorem dX7_copy_17 : decode cX7_copy 17 = .ok (.putfield 15, 3) := by decide +kernel
theorem dX7_copy_20 : decode cX7_copy 20 = .ok (.aload_n 1, 1) := by decide +kernel
theorem dX7_copy_21 : decode cX7_copy 21 = .ok (.iconst 0, 1) := by decide +kernel
theorem dX7_copy_22 : decode cX7_copy 22 = .ok (.aload_n 0, 1) := by decide +kernel
theorem dX7_copy_23 : decode cX7_copy 23 = .ok (.getfield 9, 3) := by decide +kernel
theorem dX7_copy_26 : decode cX7_copy 26 = .ok (.iconst 0, 1) := by decide +kernel
theorem dX7_copy_27 : decode cX7_copy 27 = .ok (.aload_n 0, 1) := by decide +kernel
theorem dX7_copy_28 : decode cX7_copy 28 = .ok (.getfield 15, 3) := by decide +kernel
theorem dX7_copy_31 : decode cX7_copy 31 = .ok (.invokestatic 42, 3) := by decide +kernel
theorem dX7_copy_34 : decode cX7_copy 34 = .ok (.return_, 1) := by decide +kernel
theorem dX7_clear_0 : decode cX7_clear 0 = .ok (.aload_n 0, 1) := by decide +kernel
theorem dX7_clear_1 : decode cX7_clear 1 = .ok (.iconst 0, 1) := by decide +kernel
theorem dX7_clear_2 : decode cX7_clear 2 = .ok (.putfield 15, 3) := by decide +kernel
theorem dX7_clear_5 : decode cX7_clear 5 = .ok (.return_, 1) := by decide +kernel
theorem dX7_append_0 : decode cX7_append 0 = .ok (.aload_n 0, 1) := by decide +kernel
theorem dX7_append_1 : decode cX7_append 1 = .ok (.getfield 15, 3) := by decide +kernel
theorem dX7_append_4 : decode cX7_append 4 = .ok (.sipush 4000, 3) := by decide +kernel
theorem dX7_append_7 : decode cX7_append 7 = .ok (.if_icmp .ge 24, 3) := by decide +kernel
theorem dX7_append_10 : decode cX7_append 10 = .ok (.aload_n 0, 1) := by decide +kernel
theorem dX7_append_11 : decode cX7_append 11 = .ok (.getfield 9, 3) := by decide +kernel
theorem dX7_append_14 : decode cX7_append 14 = .ok (.aload_n 0, 1) := by decide +kernel
theorem dX7_append_15 : decode cX7_append 15 = .ok (.getfield 15, 3) := by decide +kernel
theorem dX7_append_18 : decode cX7_append 18 = .ok (.iload_n 1, 1) := by decide +kernel
theorem dX7_append_19 : decode cX7_append 19 = .ok (.i2b, 1) := by decide +kernel
theorem dX7_append_20 : decode cX7_append 20 = .ok (.bastore, 1) := by decide +kernel
theorem dX7_append_21 : decode cX7_append 21 = .ok (.aload_n 0, 1) := by decide +kernel
theorem dX7_append_22 : decode cX7_append 22 = .ok (.dup, 1) := by decide +kernel
theorem dX7_append_23 : decode cX7_append 23 = .ok (.getfield 15, 3) := by decide +kernel
theorem dX7_append_26 : decode cX7_append 26 = .ok (.iconst 1, 1) := by decide +kernel
theorem dX7_append_27 : decode cX7_append 27 = .ok (.iadd, 1) := by decide +kernel
theorem dX7_append_28 : decode cX7_append 28 = .ok (.putfield 15, 3) := by decide +kernel
theorem dX7_append_31 : decode cX7_append 31 = .ok (.return_, 1) := by decide +kernel
theorem dX7_split_0 : decode cX7_split 0 = .ok (.aload_n 0, 1) := by decide +kernel
theorem dX7_split_1 : decode cX7_split 1 = .ok (.iconst 0, 1) := by decide +kernel
theorem dX7_split_2 : decode cX7_split 2 = .ok (.putfield 30, 3) := by decide +kernel
theorem dX7_split_5 : decode cX7_split 5 = .ok (.iconst 0, 1) := by decide +kernel
theorem dX7_split_6 : decode cX7_split 6 = .ok (.istore_n 1, 1) := by decide +kernel
theorem dX7_split_7 : decode cX7_split 7 = .ok (.iconst 0, 1) := by decide +kernel
theorem dX7_split_8 : decode cX7_split 8 = .ok (.istore_n 2, 1) := by decide +kernel
theorem dX7_split_9 : decode cX7_split 9 = .ok (.iload_n 2, 1) := by decide +kernel
theorem dX7_split_10 : decode cX7_split 10 = .ok (.aload_n 0, 1) := by decide +kernel
theorem dX7_split_11 : decode cX7_split 11 = .ok (.getfield 15, 3) := by decide +kernel
theorem dX7_split_14 : decode cX7_split 14 = .ok (.if_icmp .ge 70, 3) := by decide +kernel
theorem dX7_split_17 : decode cX7_split 17 = .ok (.aload_n 0, 1) := by decide +kernel
theorem dX7_split_18 : decode cX7_split 18 = .ok (.getfield 9, 3) := by decide +kernel
theorem dX7_split_21 : decode cX7_split 21 = .ok (.iload_n 2, 1) := by decide +kernel
theorem dX7_split_22 : decode cX7_split 22 = .ok (.baload, 1) := by decide +kernel
theorem dX7_split_23 : decode cX7_split 23 = .ok (.istore_n 3, 1) := by decide +kernel
theorem dX7_split_24 : decode cX7_split 24 = .ok (.iload_n 1, 1) := by decide +kernel
theorem dX7_split_25 : decode cX7_split 25 = .ok (.ifCond .eq 20, 3) := by decide +kernel
theorem dX7_split_28 : decode cX7_split 28 = .ok (.aload_n 0, 1) := by decide +kernel
theorem dX7_split_29 : decode cX7_split 29 = .ok (.iload_n 3, 1) := by decide +kernel
theorem dX7_split_30 : decode cX7_split 30 = .ok (.invokevirtual 48, 3) := by decide +kernel
theorem dX7_split_33 : decode cX7_split 33 = .ok (.ifCond .eq 12, 3) := by decide +kernel
theorem dX7_split_36 : decode cX7_split 36 = .ok (.aload_n 0, 1) := by decide +kernel
theorem dX7_split_37 : decode cX7_split 37 = .ok (.iload_n 2, 1) := by decide +kernel
theorem dX7_split_38 : decode cX7_split 38 = .ok (.iload_n 3, 1) := by decide +kernel
theorem dX7_split_39 : decode cX7_split 39 = .ok (.invokevirtual 52, 3) := by decide +kernel
theorem dX7_split_42 : decode cX7_split 42 = .ok (.goto 16, 3) := by decide +kernel
theorem dX7_split_45 : decode cX7_split 45 = .ok (.iload_n 3, 1) := by decide +kernel
theorem dX7_split_46 : decode cX7_split 46 = .ok (.invokestatic 56, 3) := by decide +kernel
theorem dX7_split_49 : decode cX7_split 49 = .ok (.ifCond .ne 9, 3) := by decide +kernel
theorem dX7_split_52 : decode cX7_split 52 = .ok (.aload_n 0, 1) := by decide +kernel
theorem dX7_split_53 : decode cX7_split 53 = .ok (.iload_n 2, 1) := by decide +kernel
theorem dX7_split_54 : decode cX7_split 54 = .ok (.iload_n 3, 1) := by decide +kernel
theorem dX7_split_55 : decode cX7_split 55 = .ok (.invokevirtual 59, 3) := by decide +kernel
theorem dX7_split_58 : decode cX7_split 58 = .ok (.iload_n 3, 1) := by decide +kernel
theorem dX7_split_59 : decode cX7_split 59 = .ok (.invokestatic 62, 3) := by decide +kernel
theorem dX7_split_62 : decode cX7_split 62 = .ok (.ifCond .ne 10, 3) := by decide +kernel
theorem dX7_split_65 : decode cX7_split 65 = .ok (.iload_n 3, 1) := by decide +kernel
theorem dX7_split_66 : decode cX7_split 66 = .ok (.invokestatic 65, 3) := by decide +kernel
theorem dX7_split_69 : decode cX7_split 69 = .ok (.ifCond .eq 7, 3) := by decide +kernel
theorem dX7_split_72 : decode cX7_split 72 = .ok (.iconst 1, 1) := by decide +kernel
theorem dX7_split_73 : decode cX7_split 73 = .ok (.goto 4, 3) := by decide +kernel
theorem dX7_split_76 : decode cX7_split 76 = .ok (.iconst 0, 1) := by decide +kernel
theorem dX7_split_77 : decode cX7_split 77 = .ok (.istore_n 1, 1) := by decide +kernel
theorem dX7_split_78 : decode cX7_split 78 = .ok (.iinc 2 1, 3) := by decide +kernel
theorem dX7_split_81 : decode cX7_split 81 = .ok (.goto (-72), 3) := by decide +kernel
theorem dX7_split_84 : decode cX7_split 84 = .ok (.aload_n 0, 1) := by decide +kernel
theorem dX7_split_85 : decode cX7_split 85 = .ok (.iconst 3, 1) := by decide +kernel
theorem dX7_split_86 : decode cX7_split 86 = .ok (.aload_n 0, 1) := by decide +kernel
theorem dX7_split_87 : decode cX7_split 87 = .ok (.getfield 15, 3) := by decide +kernel
theorem dX7_split_90 : decode cX7_split 90 = .ok (.lconst 0, 1) := by decide +kernel
theorem dX7_split_91 : decode cX7_split 91 = .ok (.invokevirtual 68, 3) := by decide +kernel
theorem dX7_split_94 : decode cX7_split 94 = .ok (.iconst 0, 1) := by decide +kernel
theorem dX7_split_95 : decode cX7_split 95 = .ok (.istore_n 2, 1) := by decide +kernel
theorem dX7_split_96 : decode cX7_split 96 = .ok (.iload_n 2, 1) := by decide +kernel
theorem dX7_split_97 : decode cX7_split 97 = .ok (.aload_n 0, 1) := by decide +kernel
theorem dX7_split_98 : decode cX7_split 98 = .ok (.getfield 30, 3) := by decide +kernel
theorem dX7_split_101 : decode cX7_split 101 = .ok (.if_icmp .ge 34, 3) := by decide +kernel
theorem dX7_split_104 : decode cX7_split 104 = .ok (.aload_n 0, 1) := by decide +kernel
theorem dX7_split_105 : decode cX7_split 105 = .ok (.getfield 19, 3) := by decide +kernel
theorem dX7_split_108 : decode cX7_split 108 = .ok (.iload_n 2, 1) := by decide +kernel
theorem dX7_split_109 : decode cX7_split 109 = .ok (.iaload, 1) := by decide +kernel
theorem dX7_split_110 : decode cX7_split 110 = .ok (.iconst 1, 1) := by decide +kernel
theorem dX7_split_111 : decode cX7_split 111 = .ok (.if_icmp .ne 18, 3) := by decide +kernel
theorem dX7_split_114 : decode cX7_split 114 = .ok (.aload_n 0, 1) := by decide +kernel
theorem dX7_split_115 : decode cX7_split 115 = .ok (.getfield 19, 3) := by decide +kernel
theorem dX7_split_118 : decode cX7_split 118 = .ok (.iload_n 2, 1) := by decide +kernel
theorem dX7_split_119 : decode cX7_split 119 = .ok (.aload_n 0, 1) := by decide +kernel
theorem dX7_split_120 : decode cX7_split 120 = .ok (.getfield 26, 3) := by decide +kernel
theorem dX7_split_123 : decode cX7_split 123 = .ok (.iload_n 2, 1) := by decide +kernel
theorem dX7_split_124 : decode cX7_split 124 = .ok (.laload, 1) := by decide +kernel
theorem dX7_split_125 : decode cX7_split 125 = .ok (.invokestatic 72, 3) := by decide +kernel
theorem dX7_split_128 : decode cX7_split 128 = .ok (.iastore, 1) := by decide +kernel
theorem dX7_split_129 : decode cX7_split 129 = .ok (.iinc 2 1, 3) := by decide +kernel
theorem dX7_split_132 : decode cX7_split 132 = .ok (.goto (-36), 3) := by decide +kernel
theorem dX7_split_135 : decode cX7_split 135 = .ok (.return_, 1) := by decide +kernel
theorem dX7_goesOn_0 : decode cX7_goesOn 0 = .ok (.iload_n 1, 1) := by decide +kernel
theorem dX7_goesOn_1 : decode cX7_goesOn 1 = .ok (.invokestatic 65, 3) := by decide +kernel
theorem dX7_goesOn_4 : decode cX7_goesOn 4 = .ok (.ifCond .ne 32, 3) := by decide +kernel
theorem dX7_goesOn_7 : decode cX7_goesOn 7 = .ok (.iload_n 1, 1) := by decide +kernel
theorem dX7_goesOn_8 : decode cX7_goesOn 8 = .ok (.invokestatic 62, 3) := by decide +kernel
theorem dX7_goesOn_11 : decode cX7_goesOn 11 = .ok (.ifCond .eq 29, 3) := by decide +kernel
theorem dX7_goesOn_14 : decode cX7_goesOn 14 = .ok (.aload_n 0, 1) := by decide +kernel
theorem dX7_goesOn_15 : decode cX7_goesOn 15 = .ok (.getfield 30, 3) := by decide +kernel
theorem dX7_goesOn_18 : decode cX7_goesOn 18 = .ok (.ifCond .le 22, 3) := by decide +kernel
theorem dX7_goesOn_21 : decode cX7_goesOn 21 = .ok (.aload_n 0, 1) := by decide +kernel
theorem dX7_goesOn_22 : decode cX7_goesOn 22 = .ok (.getfield 19, 3) := by decide +kernel
theorem dX7_goesOn_25 : decode cX7_goesOn 25 = .ok (.aload_n 0, 1) := by decide +kernel
theorem dX7_goesOn_26 : decode cX7_goesOn 26 = .ok (.getfield 30, 3) := by decide +kernel
theorem dX7_goesOn_29 : decode cX7_goesOn 29 = .ok (.iconst 1, 1) := by decide +kernel
theorem dX7_goesOn_30 : decode cX7_goesOn 30 = .ok (.isub, 1) := by decide +kernel
theorem dX7_goesOn_31 : decode cX7_goesOn 31 = .ok (.iaload, 1) := by decide +kernel
theorem dX7_goesOn_32 : decode cX7_goesOn 32 = .ok (.iconst 1, 1) := by decide +kernel
theorem dX7_goesOn_33 : decode cX7_goesOn 33 = .ok (.if_icmp .ne 7, 3) := by decide +kernel
theorem dX7_goesOn_36 : decode cX7_goesOn 36 = .ok (.iconst 1, 1) := by decide +kernel
theorem dX7_goesOn_37 : decode cX7_goesOn 37 = .ok (.goto 4, 3) := by decide +kernel
theorem dX7_goesOn_40 : decode cX7_goesOn 40 = .ok (.iconst 0, 1) := by decide +kernel
theorem dX7_goesOn_41 : decode cX7_goesOn 41 = .ok (.ireturn, 1) := by decide +kernel
theorem dX7_extend_0 : decode cX7_extend 0 = .ok (.aload_n 0, 1) := by decide +kernel
theorem dX7_extend_1 : decode cX7_extend 1 = .ok (.getfield 30, 3) := by decide +kernel
theorem dX7_extend_4 : decode cX7_extend 4 = .ok (.iconst 1, 1) := by decide +kernel
theorem dX7_extend_5 : decode cX7_extend 5 = .ok (.isub, 1) := by decide +kernel
theorem dX7_extend_6 : decode cX7_extend 6 = .ok (.istore_n 3, 1) := by decide +kernel
theorem dX7_extend_7 : decode cX7_extend 7 = .ok (.iload_n 3, 1) := by decide +kernel
theorem dX7_extend_8 : decode cX7_extend 8 = .ok (.ifCond .ge 4, 3) := by decide +kernel
theorem dX7_extend_11 : decode cX7_extend 11 = .ok (.return_, 1) := by decide +kernel
theorem dX7_extend_12 : decode cX7_extend 12 = .ok (.aload_n 0, 1) := by decide +kernel
theorem dX7_extend_13 : decode cX7_extend 13 = .ok (.getfield 19, 3) := by decide +kernel
theorem dX7_extend_16 : decode cX7_extend 16 = .ok (.iload_n 3, 1) := by decide +kernel
theorem dX7_extend_17 : decode cX7_extend 17 = .ok (.iaload, 1) := by decide +kernel
theorem dX7_extend_18 : decode cX7_extend 18 = .ok (.iconst 1, 1) := by decide +kernel
theorem dX7_extend_19 : decode cX7_extend 19 = .ok (.if_icmp .ne 7, 3) := by decide +kernel
theorem dX7_extend_22 : decode cX7_extend 22 = .ok (.iconst 1, 1) := by decide +kernel
theorem dX7_extend_23 : decode cX7_extend 23 = .ok (.goto 4, 3) := by decide +kernel
theorem dX7_extend_26 : decode cX7_extend 26 = .ok (.iconst 0, 1) := by decide +kernel
theorem dX7_extend_27 : decode cX7_extend 27 = .ok (.istore 4, 2) := by decide +kernel
theorem dX7_extend_29 : decode cX7_extend 29 = .ok (.iload_n 1, 1) := by decide +kernel
theorem dX7_extend_30 : decode cX7_extend 30 = .ok (.aload_n 0, 1) := by decide +kernel
theorem dX7_extend_31 : decode cX7_extend 31 = .ok (.getfield 23, 3) := by decide +kernel
theorem dX7_extend_34 : decode cX7_extend 34 = .ok (.iload_n 3, 1) := by decide +kernel
theorem dX7_extend_35 : decode cX7_extend 35 = .ok (.iaload, 1) := by decide +kernel
theorem dX7_extend_36 : decode cX7_extend 36 = .ok (.isub, 1) := by decide +kernel
theorem dX7_extend_37 : decode cX7_extend 37 = .ok (.iload 4, 2) := by decide +kernel
theorem dX7_extend_39 : decode cX7_extend 39 = .ok (.ifCond .eq 8, 3) := by decide +kernel
theorem dX7_extend_42 : decode cX7_extend 42 = .ok (.bipush 8, 2) := by decide +kernel
theorem dX7_extend_44 : decode cX7_extend 44 = .ok (.goto 4, 3) := by decide +kernel
theorem dX7_extend_47 : decode cX7_extend 47 = .ok (.iconst 4, 1) := by decide +kernel
theorem dX7_extend_48 : decode cX7_extend 48 = .ok (.if_icmp .lt 10, 3) := by decide +kernel
theorem dX7_extend_51 : decode cX7_extend 51 = .ok (.aload_n 0, 1) := by decide +kernel
theorem dX7_extend_52 : decode cX7_extend 52 = .ok (.getfield 19, 3) := by decide +kernel
theorem dX7_extend_55 : decode cX7_extend 55 = .ok (.iload_n 3, 1) := by decide +kernel
theorem dX7_extend_56 : decode cX7_extend 56 = .ok (.iconst 4, 1) := by decide +kernel
theorem dX7_extend_57 : decode cX7_extend 57 = .ok (.iastore, 1) := by decide +kernel
theorem dX7_extend_58 : decode cX7_extend 58 = .ok (.aload_n 0, 1) := by decide +kernel
theorem dX7_extend_59 : decode cX7_extend 59 = .ok (.getfield 26, 3) := by decide +kernel
theorem dX7_extend_62 : decode cX7_extend 62 = .ok (.iload_n 3, 1) := by decide +kernel
theorem dX7_extend_63 : decode cX7_extend 63 = .ok (.iload 4, 2) := by decide +kernel
theorem dX7_extend_65 : decode cX7_extend 65 = .ok (.ifCond .eq 18, 3) := by decide +kernel
theorem dX7_extend_68 : decode cX7_extend 68 = .ok (.aload_n 0, 1) := by decide +kernel
theorem dX7_extend_69 : decode cX7_extend 69 = .ok (.getfield 26, 3) := by decide +kernel
theorem dX7_extend_72 : decode cX7_extend 72 = .ok (.iload_n 3, 1) := by decide +kernel
theorem dX7_extend_73 : decode cX7_extend 73 = .ok (.laload, 1) := by decide +kernel
theorem dX7_extend_74 : decode cX7_extend 74 = .ok (.bipush 8, 2) := by decide +kernel
theorem dX7_extend_76 : decode cX7_extend 76 = .ok (.lshl, 1) := by decide +kernel
theorem dX7_extend_77 : decode cX7_extend 77 = .ok (.iload_n 2, 1) := by decide +kernel
theorem dX7_extend_78 : decode cX7_extend 78 = .ok (.i2l, 1) := by decide +kernel
theorem dX7_extend_79 : decode cX7_extend 79 = .ok (.lor, 1) := by decide +kernel
theorem dX7_extend_80 : decode cX7_extend 80 = .ok (.goto 20, 3) := by decide +kernel
theorem dX7_extend_83 : decode cX7_extend 83 = .ok (.aload_n 0, 1) := by decide +kernel
theorem dX7_extend_84 : decode cX7_extend 84 = .ok (.getfield 26, 3) := by decide +kernel
theorem dX7_extend_87 : decode cX7_extend 87 = .ok (.iload_n 3, 1) := by decide +kernel
theorem dX7_extend_88 : decode cX7_extend 88 = .ok (.laload, 1) := by decide +kernel
theorem dX7_extend_89 : decode cX7_extend 89 = .ok (.ldc2_w 76, 3) := by decide +kernel
theorem dX7_extend_92 : decode cX7_extend 92 = .ok (.lmul, 1) := by decide +kernel
theorem dX7_extend_93 : decode cX7_extend 93 = .ok (.iload_n 2, 1) := by decide +kernel
theorem dX7_extend_94 : decode cX7_extend 94 = .ok (.i2l, 1) := by decide +kernel
theorem dX7_extend_95 : decode cX7_extend 95 = .ok (.ladd, 1) := by decide +kernel
theorem dX7_extend_96 : decode cX7_extend 96 = .ok (.ldc2_w 78, 3) := by decide +kernel
theorem dX7_extend_99 : decode cX7_extend 99 = .ok (.lsub, 1) := by decide +kernel
theorem dX7_extend_100 : decode cX7_extend 100 = .ok (.lastore, 1) := by decide +kernel
theorem dX7_extend_101 : decode cX7_extend 101 = .ok (.return_, 1) := by decide +kernel
theorem dX7_begin_0 : decode cX7_begin 0 = .ok (.iload_n 2, 1) := by decide +kernel
theorem dX7_begin_1 : decode cX7_begin 1 = .ok (.invokestatic 62, 3) := by decide +kernel
theorem dX7_begin_4 : decode cX7_begin 4 = .ok (.ifCond .eq 14, 3) := by decide +kernel
theorem dX7_begin_7 : decode cX7_begin 7 = .ok (.aload_n 0, 1) := by decide +kernel
theorem dX7_begin_8 : decode cX7_begin 8 = .ok (.iconst 1, 1) := by decide +kernel
theorem dX7_begin_9 : decode cX7_begin 9 = .ok (.iload_n 1, 1) := by decide +kernel
theorem dX7_begin_10 : decode cX7_begin 10 = .ok (.iload_n 2, 1) := by decide +kernel
theorem dX7_begin_11 : decode cX7_begin 11 = .ok (.i2l, 1) := by decide +kernel
theorem dX7_begin_12 : decode cX7_begin 12 = .ok (.invokevirtual 68, 3) := by decide +kernel
theorem dX7_begin_15 : decode cX7_begin 15 = .ok (.goto 69, 3) := by decide +kernel
theorem dX7_begin_18 : decode cX7_begin 18 = .ok (.iload_n 2, 1) := by decide +kernel
theorem dX7_begin_19 : decode cX7_begin 19 = .ok (.invokestatic 65, 3) := by decide +kernel
theorem dX7_begin_22 : decode cX7_begin 22 = .ok (.ifCond .eq 17, 3) := by decide +kernel
theorem dX7_begin_25 : decode cX7_begin 25 = .ok (.aload_n 0, 1) := by decide +kernel
theorem dX7_begin_26 : decode cX7_begin 26 = .ok (.iconst 2, 1) := by decide +kernel
theorem dX7_begin_27 : decode cX7_begin 27 = .ok (.iload_n 1, 1) := by decide +kernel
theorem dX7_begin_28 : decode cX7_begin 28 = .ok (.iload_n 2, 1) := by decide +kernel
theorem dX7_begin_29 : decode cX7_begin 29 = .ok (.bipush 48, 2) := by decide +kernel
theorem dX7_begin_31 : decode cX7_begin 31 = .ok (.isub, 1) := by decide +kernel
theorem dX7_begin_32 : decode cX7_begin 32 = .ok (.i2l, 1) := by decide +kernel
theorem dX7_begin_33 : decode cX7_begin 33 = .ok (.invokevirtual 68, 3) := by decide +kernel
theorem dX7_begin_36 : decode cX7_begin 36 = .ok (.goto 48, 3) := by decide +kernel
theorem dX7_begin_39 : decode cX7_begin 39 = .ok (.iload_n 2, 1) := by decide +kernel
theorem dX7_begin_40 : decode cX7_begin 40 = .ok (.bipush 46, 2) := by decide +kernel
theorem dX7_begin_42 : decode cX7_begin 42 = .ok (.if_icmp .eq 21, 3) := by decide +kernel
theorem dX7_begin_45 : decode cX7_begin 45 = .ok (.iload_n 2, 1) := by decide +kernel
theorem dX7_begin_46 : decode cX7_begin 46 = .ok (.bipush 59, 2) := by decide +kernel
theorem dX7_begin_48 : decode cX7_begin 48 = .ok (.if_icmp .eq 15, 3) := by decide +kernel
theorem dX7_begin_51 : decode cX7_begin 51 = .ok (.iload_n 2, 1) := by decide +kernel
theorem dX7_begin_52 : decode cX7_begin 52 = .ok (.bipush 43, 2) := by decide +kernel
theorem dX7_begin_54 : decode cX7_begin 54 = .ok (.if_icmp .eq 9, 3) := by decide +kernel
theorem dX7_begin_57 : decode cX7_begin 57 = .ok (.iload_n 2, 1) := by decide +kernel
theorem dX7_begin_58 : decode cX7_begin 58 = .ok (.bipush 45, 2) := by decide +kernel
theorem dX7_begin_60 : decode cX7_begin 60 = .ok (.if_icmp .ne 7, 3) := by decide +kernel
theorem dX7_begin_63 : decode cX7_begin 63 = .ok (.iconst 1, 1) := by decide +kernel
theorem dX7_begin_64 : decode cX7_begin 64 = .ok (.goto 4, 3) := by decide +kernel
theorem dX7_begin_67 : decode cX7_begin 67 = .ok (.iconst 0, 1) := by decide +kernel
theorem dX7_begin_68 : decode cX7_begin 68 = .ok (.istore_n 3, 1) := by decide +kernel
theorem dX7_begin_69 : decode cX7_begin 69 = .ok (.aload_n 0, 1) := by decide +kernel
theorem dX7_begin_70 : decode cX7_begin 70 = .ok (.iload_n 3, 1) := by decide +kernel
theorem dX7_begin_71 : decode cX7_begin 71 = .ok (.ifCond .eq 7, 3) := by decide +kernel
theorem dX7_begin_74 : decode cX7_begin 74 = .ok (.iload_n 2, 1) := by decide +kernel
theorem dX7_begin_75 : decode cX7_begin 75 = .ok (.goto 4, 3) := by decide +kernel
theorem dX7_begin_78 : decode cX7_begin 78 = .ok (.iconst 4, 1) := by decide +kernel
theorem dX7_begin_79 : decode cX7_begin 79 = .ok (.iload_n 1, 1) := by decide +kernel
theorem dX7_begin_80 : decode cX7_begin 80 = .ok (.lconst 0, 1) := by decide +kernel
theorem dX7_begin_81 : decode cX7_begin 81 = .ok (.invokevirtual 68, 3) := by decide +kernel
theorem dX7_begin_84 : decode cX7_begin 84 = .ok (.return_, 1) := by decide +kernel
theorem dX7_put_0 : decode cX7_put 0 = .ok (.aload_n 0, 1) := by decide +kernel
theorem dX7_put_1 : decode cX7_put 1 = .ok (.getfield 30, 3) := by decide +kernel
theorem dX7_put_4 : decode cX7_put 4 = .ok (.sipush 4001, 3) := by decide +kernel
theorem dX7_put_7 : decode cX7_put 7 = .ok (.if_icmp .ge 43, 3) := by decide +kernel
theorem dX7_put_10 : decode cX7_put 10 = .ok (.aload_n 0, 1) := by decide +kernel
theorem dX7_put_11 : decode cX7_put 11 = .ok (.getfield 19, 3) := by decide +kernel
theorem dX7_put_14 : decode cX7_put 14 = .ok (.aload_n 0, 1) := by decide +kernel
theorem dX7_put_15 : decode cX7_put 15 = .ok (.getfield 30, 3) := by decide +kernel
theorem dX7_put_18 : decode cX7_put 18 = .ok (.iload_n 1, 1) := by decide +kernel
theorem dX7_put_19 : decode cX7_put 19 = .ok (.iastore, 1) := by decide +kernel
theorem dX7_put_20 : decode cX7_put 20 = .ok (.aload_n 0, 1) := by decide +kernel
theorem dX7_put_21 : decode cX7_put 21 = .ok (.getfield 23, 3) := by decide +kernel
theorem dX7_put_24 : decode cX7_put 24 = .ok (.aload_n 0, 1) := by decide +kernel
theorem dX7_put_25 : decode cX7_put 25 = .ok (.getfield 30, 3) := by decide +kernel
theorem dX7_put_28 : decode cX7_put 28 = .ok (.iload_n 2, 1) := by decide +kernel
theorem dX7_put_29 : decode cX7_put 29 = .ok (.iastore, 1) := by decide +kernel
theorem dX7_put_30 : decode cX7_put 30 = .ok (.aload_n 0, 1) := by decide +kernel
theorem dX7_put_31 : decode cX7_put 31 = .ok (.getfield 26, 3) := by decide +kernel
theorem dX7_put_34 : decode cX7_put 34 = .ok (.aload_n 0, 1) := by decide +kernel
theorem dX7_put_35 : decode cX7_put 35 = .ok (.getfield 30, 3) := by decide +kernel
theorem dX7_put_38 : decode cX7_put 38 = .ok (.lload_n 3, 1) := by decide +kernel
theorem dX7_put_39 : decode cX7_put 39 = .ok (.lastore, 1) := by decide +kernel
theorem dX7_put_40 : decode cX7_put 40 = .ok (.aload_n 0, 1) := by decide +kernel
theorem dX7_put_41 : decode cX7_put 41 = .ok (.dup, 1) := by decide +kernel
theorem dX7_put_42 : decode cX7_put 42 = .ok (.getfield 30, 3) := by decide +kernel
theorem dX7_put_45 : decode cX7_put 45 = .ok (.iconst 1, 1) := by decide +kernel
theorem dX7_put_46 : decode cX7_put 46 = .ok (.iadd, 1) := by decide +kernel
theorem dX7_put_47 : decode cX7_put 47 = .ok (.putfield 30, 3) := by decide +kernel
theorem dX7_put_50 : decode cX7_put 50 = .ok (.return_, 1) := by decide +kernel
theorem dX7_kindOfWord_0 : decode cX7_kindOfWord 0 = .ok (.lload_n 0, 1) := by decide +kernel
theorem dX7_kindOfWord_1 : decode cX7_kindOfWord 1 = .ok (.ldc 80, 2) := by decide +kernel
theorem dX7_kindOfWord_3 : decode cX7_kindOfWord 3 = .ok (.invokestatic 82, 3) := by decide +kernel
theorem dX7_kindOfWord_6 : decode cX7_kindOfWord 6 = .ok (.lcmp, 1) := by decide +kernel
theorem dX7_kindOfWord_7 : decode cX7_kindOfWord 7 = .ok (.ifCond .ne 6, 3) := by decide +kernel
theorem dX7_kindOfWord_10 : decode cX7_kindOfWord 10 = .ok (.bipush 15, 2) := by decide +kernel
theorem dX7_kindOfWord_12 : decode cX7_kindOfWord 12 = .ok (.ireturn, 1) := by decide +kernel
theorem dX7_kindOfWord_13 : decode cX7_kindOfWord 13 = .ok (.lload_n 0, 1) := by decide +kernel
theorem dX7_kindOfWord_14 : decode cX7_kindOfWord 14 = .ok (.ldc 86, 2) := by decide +kernel
theorem dX7_kindOfWord_16 : decode cX7_kindOfWord 16 = .ok (.invokestatic 82, 3) := by decide +kernel
theorem dX7_kindOfWord_19 : decode cX7_kindOfWord 19 = .ok (.lcmp, 1) := by decide +kernel
theorem dX7_kindOfWord_20 : decode cX7_kindOfWord 20 = .ok (.ifCond .ne 6, 3) := by decide +kernel
theorem dX7_kindOfWord_23 : decode cX7_kindOfWord 23 = .ok (.bipush 18, 2) := by decide +kernel
theorem dX7_kindOfWord_25 : decode cX7_kindOfWord 25 = .ok (.ireturn, 1) := by decide +kernel
theorem dX7_kindOfWord_26 : decode cX7_kindOfWord 26 = .ok (.lload_n 0, 1) := by decide +kernel
theorem dX7_kindOfWord_27 : decode cX7_kindOfWord 27 = .ok (.ldc 88, 2) := by decide +kernel
theorem dX7_kindOfWord_29 : decode cX7_kindOfWord 29 = .ok (.invokestatic 82, 3) := by decide +kernel
theorem dX7_kindOfWord_32 : decode cX7_kindOfWord 32 = .ok (.lcmp, 1) := by decide +kernel
theorem dX7_kindOfWord_33 : decode cX7_kindOfWord 33 = .ok (.ifCond .ne 6, 3) := by decide +kernel
theorem dX7_kindOfWord_36 : decode cX7_kindOfWord 36 = .ok (.bipush 19, 2) := by decide +kernel
theorem dX7_kindOfWord_38 : decode cX7_kindOfWord 38 = .ok (.ireturn, 1) := by decide +kernel
theorem dX7_kindOfWord_39 : decode cX7_kindOfWord 39 = .ok (.lload_n 0, 1) := by decide +kernel
theorem dX7_kindOfWord_40 : decode cX7_kindOfWord 40 = .ok (.ldc 90, 2) := by decide +kernel
theorem dX7_kindOfWord_42 : decode cX7_kindOfWord 42 = .ok (.invokestatic 82, 3) := by decide +kernel
theorem dX7_kindOfWord_45 : decode cX7_kindOfWord 45 = .ok (.lcmp, 1) := by decide +kernel
theorem dX7_kindOfWord_46 : decode cX7_kindOfWord 46 = .ok (.ifCond .ne 6, 3) := by decide +kernel
theorem dX7_kindOfWord_49 : decode cX7_kindOfWord 49 = .ok (.bipush 10, 2) := by decide +kernel
theorem dX7_kindOfWord_51 : decode cX7_kindOfWord 51 = .ok (.ireturn, 1) := by decide +kernel
theorem dX7_kindOfWord_52 : decode cX7_kindOfWord 52 = .ok (.lload_n 0, 1) := by decide +kernel
theorem dX7_kindOfWord_53 : decode cX7_kindOfWord 53 = .ok (.ldc 92, 2) := by decide +kernel
theorem dX7_kindOfWord_55 : decode cX7_kindOfWord 55 = .ok (.invokestatic 82, 3) := by decide +kernel
theorem dX7_kindOfWord_58 : decode cX7_kindOfWord 58 = .ok (.lcmp, 1) := by decide +kernel
theorem dX7_kindOfWord_59 : decode cX7_kindOfWord 59 = .ok (.ifCond .ne 6, 3) := by decide +kernel
theorem dX7_kindOfWord_62 : decode cX7_kindOfWord 62 = .ok (.bipush 16, 2) := by decide +kernel
theorem dX7_kindOfWord_64 : decode cX7_kindOfWord 64 = .ok (.ireturn, 1) := by decide +kernel
theorem dX7_kindOfWord_65 : decode cX7_kindOfWord 65 = .ok (.lload_n 0, 1) := by decide +kernel
theorem dX7_kindOfWord_66 : decode cX7_kindOfWord 66 = .ok (.ldc 94, 2) := by decide +kernel
theorem dX7_kindOfWord_68 : decode cX7_kindOfWord 68 = .ok (.invokestatic 82, 3) := by decide +kernel
theorem dX7_kindOfWord_71 : decode cX7_kindOfWord 71 = .ok (.lcmp, 1) := by decide +kernel
theorem dX7_kindOfWord_72 : decode cX7_kindOfWord 72 = .ok (.ifCond .ne 6, 3) := by decide +kernel
theorem dX7_kindOfWord_75 : decode cX7_kindOfWord 75 = .ok (.bipush 17, 2) := by decide +kernel
theorem dX7_kindOfWord_77 : decode cX7_kindOfWord 77 = .ok (.ireturn, 1) := by decide +kernel
theorem dX7_kindOfWord_78 : decode cX7_kindOfWord 78 = .ok (.lload_n 0, 1) := by decide +kernel
theorem dX7_kindOfWord_79 : decode cX7_kindOfWord 79 = .ok (.ldc 96, 2) := by decide +kernel
theorem dX7_kindOfWord_81 : decode cX7_kindOfWord 81 = .ok (.invokestatic 82, 3) := by decide +kernel
theorem dX7_kindOfWord_84 : decode cX7_kindOfWord 84 = .ok (.lcmp, 1) := by decide +kernel
theorem dX7_kindOfWord_85 : decode cX7_kindOfWord 85 = .ok (.ifCond .ne 6, 3) := by decide +kernel
theorem dX7_kindOfWord_88 : decode cX7_kindOfWord 88 = .ok (.bipush 11, 2) := by decide +kernel
theorem dX7_kindOfWord_90 : decode cX7_kindOfWord 90 = .ok (.ireturn, 1) := by decide +kernel
theorem dX7_kindOfWord_91 : decode cX7_kindOfWord 91 = .ok (.lload_n 0, 1) := by decide +kernel
theorem dX7_kindOfWord_92 : decode cX7_kindOfWord 92 = .ok (.ldc 98, 2) := by decide +kernel
theorem dX7_kindOfWord_94 : decode cX7_kindOfWord 94 = .ok (.invokestatic 82, 3) := by decide +kernel
theorem dX7_kindOfWord_97 : decode cX7_kindOfWord 97 = .ok (.lcmp, 1) := by decide +kernel
theorem dX7_kindOfWord_98 : decode cX7_kindOfWord 98 = .ok (.ifCond .ne 6, 3) := by decide +kernel
theorem dX7_kindOfWord_101 : decode cX7_kindOfWord 101 = .ok (.bipush 12, 2) := by decide +kernel
theorem dX7_kindOfWord_103 : decode cX7_kindOfWord 103 = .ok (.ireturn, 1) := by decide +kernel
theorem dX7_kindOfWord_104 : decode cX7_kindOfWord 104 = .ok (.lload_n 0, 1) := by decide +kernel
theorem dX7_kindOfWord_105 : decode cX7_kindOfWord 105 = .ok (.ldc 100, 2) := by decide +kernel
theorem dX7_kindOfWord_107 : decode cX7_kindOfWord 107 = .ok (.invokestatic 82, 3) := by decide +kernel
theorem dX7_kindOfWord_110 : decode cX7_kindOfWord 110 = .ok (.lcmp, 1) := by decide +kernel
theorem dX7_kindOfWord_111 : decode cX7_kindOfWord 111 = .ok (.ifCond .ne 6, 3) := by decide +kernel
theorem dX7_kindOfWord_114 : decode cX7_kindOfWord 114 = .ok (.bipush 13, 2) := by decide +kernel
theorem dX7_kindOfWord_116 : decode cX7_kindOfWord 116 = .ok (.ireturn, 1) := by decide +kernel
theorem dX7_kindOfWord_117 : decode cX7_kindOfWord 117 = .ok (.lload_n 0, 1) := by decide +kernel
theorem dX7_kindOfWord_118 : decode cX7_kindOfWord 118 = .ok (.ldc 102, 2) := by decide +kernel
theorem dX7_kindOfWord_120 : decode cX7_kindOfWord 120 = .ok (.invokestatic 82, 3) := by decide +kernel
theorem dX7_kindOfWord_123 : decode cX7_kindOfWord 123 = .ok (.lcmp, 1) := by decide +kernel
theorem dX7_kindOfWord_124 : decode cX7_kindOfWord 124 = .ok (.ifCond .ne 8, 3) := by decide +kernel
theorem dX7_kindOfWord_127 : decode cX7_kindOfWord 127 = .ok (.bipush 14, 2) := by decide +kernel
theorem dX7_kindOfWord_129 : decode cX7_kindOfWord 129 = .ok (.goto 4, 3) := by decide +kernel
theorem dX7_kindOfWord_132 : decode cX7_kindOfWord 132 = .ok (.iconst 1, 1) := by decide +kernel
theorem dX7_kindOfWord_133 : decode cX7_kindOfWord 133 = .ok (.ireturn, 1) := by decide +kernel
theorem dX7_packed_0 : decode cX7_packed 0 = .ok (.lconst 0, 1) := by decide +kernel
theorem dX7_packed_1 : decode cX7_packed 1 = .ok (.lstore_n 1, 1) := by decide +kernel
theorem dX7_packed_2 : decode cX7_packed 2 = .ok (.iconst 0, 1) := by decide +kernel
theorem dX7_packed_3 : decode cX7_packed 3 = .ok (.istore_n 3, 1) := by decide +kernel
theorem dX7_packed_4 : decode cX7_packed 4 = .ok (.iload_n 3, 1) := by decide +kernel
theorem dX7_packed_5 : decode cX7_packed 5 = .ok (.aload_n 0, 1) := by decide +kernel
theorem dX7_packed_6 : decode cX7_packed 6 = .ok (.invokevirtual 104, 3) := by decide +kernel
theorem dX7_packed_9 : decode cX7_packed 9 = .ok (.if_icmp .ge 21, 3) := by decide +kernel
theorem dX7_packed_12 : decode cX7_packed 12 = .ok (.lload_n 1, 1) := by decide +kernel
theorem dX7_packed_13 : decode cX7_packed 13 = .ok (.bipush 8, 2) := by decide +kernel
theorem dX7_packed_15 : decode cX7_packed 15 = .ok (.lshl, 1) := by decide +kernel
theorem dX7_packed_16 : decode cX7_packed 16 = .ok (.aload_n 0, 1) := by decide +kernel
theorem dX7_packed_17 : decode cX7_packed 17 = .ok (.iload_n 3, 1) := by decide +kernel
theorem dX7_packed_18 : decode cX7_packed 18 = .ok (.invokevirtual 109, 3) := by decide +kernel
theorem dX7_packed_21 : decode cX7_packed 21 = .ok (.i2l, 1) := by decide +kernel
theorem dX7_packed_22 : decode cX7_packed 22 = .ok (.lor, 1) := by decide +kernel
theorem dX7_packed_23 : decode cX7_packed 23 = .ok (.lstore_n 1, 1) := by decide +kernel
theorem dX7_packed_24 : decode cX7_packed 24 = .ok (.iinc 3 1, 3) := by decide +kernel
theorem dX7_packed_27 : decode cX7_packed 27 = .ok (.goto (-23), 3) := by decide +kernel
theorem dX7_packed_30 : decode cX7_packed 30 = .ok (.lload_n 1, 1) := by decide +kernel
theorem dX7_packed_31 : decode cX7_packed 31 = .ok (.lreturn, 1) := by decide +kernel
theorem dX7_isBlank_0 : decode cX7_isBlank 0 = .ok (.iload_n 0, 1) := by decide +kernel
theorem dX7_isBlank_1 : decode cX7_isBlank 1 = .ok (.bipush 32, 2) := by decide +kernel
theorem dX7_isBlank_3 : decode cX7_isBlank 3 = .ok (.if_icmp .eq 9, 3) := by decide +kernel
theorem dX7_isBlank_6 : decode cX7_isBlank 6 = .ok (.iload_n 0, 1) := by decide +kernel
theorem dX7_isBlank_7 : decode cX7_isBlank 7 = .ok (.bipush 10, 2) := by decide +kernel
theorem dX7_isBlank_9 : decode cX7_isBlank 9 = .ok (.if_icmp .ne 7, 3) := by decide +kernel
theorem dX7_isBlank_12 : decode cX7_isBlank 12 = .ok (.iconst 1, 1) := by decide +kernel
theorem dX7_isBlank_13 : decode cX7_isBlank 13 = .ok (.goto 4, 3) := by decide +kernel
theorem dX7_isBlank_16 : decode cX7_isBlank 16 = .ok (.iconst 0, 1) := by decide +kernel
theorem dX7_isBlank_17 : decode cX7_isBlank 17 = .ok (.ireturn, 1) := by decide +kernel
theorem dX7_isLetter_0 : decode cX7_isLetter 0 = .ok (.iload_n 0, 1) := by decide +kernel
theorem dX7_isLetter_1 : decode cX7_isLetter 1 = .ok (.bipush 97, 2) := by decide +kernel
theorem dX7_isLetter_3 : decode cX7_isLetter 3 = .ok (.if_icmp .lt 9, 3) := by decide +kernel
theorem dX7_isLetter_6 : decode cX7_isLetter 6 = .ok (.iload_n 0, 1) := by decide +kernel
theorem dX7_isLetter_7 : decode cX7_isLetter 7 = .ok (.bipush 122, 2) := by decide +kernel
theorem dX7_isLetter_9 : decode cX7_isLetter 9 = .ok (.if_icmp .le 15, 3) := by decide +kernel
theorem dX7_isLetter_12 : decode cX7_isLetter 12 = .ok (.iload_n 0, 1) := by decide +kernel
theorem dX7_isLetter_13 : decode cX7_isLetter 13 = .ok (.bipush 65, 2) := by decide +kernel
theorem dX7_isLetter_15 : decode cX7_isLetter 15 = .ok (.if_icmp .lt 13, 3) := by decide +kernel
theorem dX7_isLetter_18 : decode cX7_isLetter 18 = .ok (.iload_n 0, 1) := by decide +kernel
theorem dX7_isLetter_19 : decode cX7_isLetter 19 = .ok (.bipush 90, 2) := by decide +kernel
theorem dX7_isLetter_21 : decode cX7_isLetter 21 = .ok (.if_icmp .gt 7, 3) := by decide +kernel
theorem dX7_isLetter_24 : decode cX7_isLetter 24 = .ok (.iconst 1, 1) := by decide +kernel
theorem dX7_isLetter_25 : decode cX7_isLetter 25 = .ok (.goto 4, 3) := by decide +kernel
theorem dX7_isLetter_28 : decode cX7_isLetter 28 = .ok (.iconst 0, 1) := by decide +kernel
theorem dX7_isLetter_29 : decode cX7_isLetter 29 = .ok (.ireturn, 1) := by decide +kernel
theorem dX7_isDigit_0 : decode cX7_isDigit 0 = .ok (.iload_n 0, 1) := by decide +kernel
theorem dX7_isDigit_1 : decode cX7_isDigit 1 = .ok (.bipush 48, 2) := by decide +kernel
theorem dX7_isDigit_3 : decode cX7_isDigit 3 = .ok (.if_icmp .lt 13, 3) := by decide +kernel
theorem dX7_isDigit_6 : decode cX7_isDigit 6 = .ok (.iload_n 0, 1) := by decide +kernel
theorem dX7_isDigit_7 : decode cX7_isDigit 7 = .ok (.bipush 57, 2) := by decide +kernel
theorem dX7_isDigit_9 : decode cX7_isDigit 9 = .ok (.if_icmp .gt 7, 3) := by decide +kernel
theorem dX7_isDigit_12 : decode cX7_isDigit 12 = .ok (.iconst 1, 1) := by decide +kernel
theorem dX7_isDigit_13 : decode cX7_isDigit 13 = .ok (.goto 4, 3) := by decide +kernel
theorem dX7_isDigit_16 : decode cX7_isDigit 16 = .ok (.iconst 0, 1) := by decide +kernel
theorem dX7_isDigit_17 : decode cX7_isDigit 17 = .ok (.ireturn, 1) := by decide +kernel
theorem dX8_init_0 : decode cX8_init 0 = .ok (.aload_n 0, 1) := by decide +kernel
theorem dX8_init_1 : decode cX8_init 1 = .ok (.invokespecial 3, 3) := by decide +kernel
theorem dX8_init_4 : decode cX8_init 4 = .ok (.aload_n 0, 1) := by decide +kernel
theorem dX8_init_5 : decode cX8_init 5 = .ok (.iconst 0, 1) := by decide +kernel
theorem dX8_init_6 : decode cX8_init 6 = .ok (.putfield 9, 3) := by decide +kernel
theorem dX8_init_9 : decode cX8_init 9 = .ok (.aload_n 0, 1) := by decide +kernel
theorem dX8_init_10 : decode cX8_init 10 = .ok (.iconst 0, 1) := by decide +kernel
theorem dX8_init_11 : decode cX8_init 11 = .ok (.putfield 15, 3) := by decide +kernel
theorem dX8_init_14 : decode cX8_init 14 = .ok (.aload_n 0, 1) := by decide +kernel
theorem dX8_init_15 : decode cX8_init 15 = .ok (.sipush 954, 3) := by decide +kernel
theorem dX8_init_18 : decode cX8_init 18 = .ok (.newarray .int, 2) := by decide +kernel
theorem dX8_init_20 : decode cX8_init 20 = .ok (.putfield 18, 3) := by decide +kernel
theorem dX8_init_23 : decode cX8_init 23 = .ok (.aload_n 0, 1) := by decide +kernel
theorem dX8_init_24 : decode cX8_init 24 = .ok (.sipush 1200, 3) := by decide +kernel
theorem dX8_init_27 : decode cX8_init 27 = .ok (.newarray .int, 2) := by decide +kernel
theorem dX8_init_29 : decode cX8_init 29 = .ok (.putfield 22, 3) := by decide +kernel
theorem dX8_init_32 : decode cX8_init 32 = .ok (.aload_n 0, 1) := by decide +kernel
theorem dX8_init_33 : decode cX8_init 33 = .ok (.sipush 1200, 3) := by decide +kernel
theorem dX8_init_36 : decode cX8_init 36 = .ok (.newarray .int, 2) := by decide +kernel
theorem dX8_init_38 : decode cX8_init 38 = .ok (.putfield 25, 3) := by decide +kernel
theorem dX8_init_41 : decode cX8_init 41 = .ok (.aload_n 0, 1) := by decide +kernel
theorem dX8_init_42 : decode cX8_init 42 = .ok (.sipush 1200, 3) := by decide +kernel
theorem dX8_init_45 : decode cX8_init 45 = .ok (.newarray .int, 2) := by decide +kernel
theorem dX8_init_47 : decode cX8_init 47 = .ok (.putfield 28, 3) := by decide +kernel
theorem dX8_init_50 : decode cX8_init 50 = .ok (.aload_n 0, 1) := by decide +kernel
theorem dX8_init_51 : decode cX8_init 51 = .ok (.sipush 954, 3) := by decide +kernel
theorem dX8_init_54 : decode cX8_init 54 = .ok (.newarray .int, 2) := by decide +kernel
theorem dX8_init_56 : decode cX8_init 56 = .ok (.putfield 31, 3) := by decide +kernel
theorem dX8_init_59 : decode cX8_init 59 = .ok (.aload_n 0, 1) := by decide +kernel
theorem dX8_init_60 : decode cX8_init 60 = .ok (.sipush 954, 3) := by decide +kernel
theorem dX8_init_63 : decode cX8_init 63 = .ok (.newarray .int, 2) := by decide +kernel
theorem dX8_init_65 : decode cX8_init 65 = .ok (.putfield 34, 3) := by decide +kernel
theorem dX8_init_68 : decode cX8_init 68 = .ok (.return_, 1) := by decide +kernel
theorem dX8_begin_0 : decode cX8_begin 0 = .ok (.aload_n 0, 1) := by decide +kernel
theorem dX8_begin_1 : decode cX8_begin 1 = .ok (.iconst 0, 1) := by decide +kernel
theorem dX8_begin_2 : decode cX8_begin 2 = .ok (.iload_n 1, 1) := by decide +kernel
theorem dX8_begin_3 : decode cX8_begin 3 = .ok (.sipush 954, 3) := by decide +kernel
theorem dX8_begin_6 : decode cX8_begin 6 = .ok (.invokestatic 37, 3) := by decide +kernel
theorem dX8_begin_9 : decode cX8_begin 9 = .ok (.invokestatic 43, 3) := by decide +kernel
theorem dX8_begin_12 : decode cX8_begin 12 = .ok (.putfield 9, 3) := by decide +kernel
theorem dX8_begin_15 : decode cX8_begin 15 = .ok (.aload_n 0, 1) := by decide +kernel
theorem dX8_begin_16 : decode cX8_begin 16 = .ok (.iconst 0, 1) := by decide +kernel
theorem dX8_begin_17 : decode cX8_begin 17 = .ok (.putfield 15, 3) := by decide +kernel
theorem dX8_begin_20 : decode cX8_begin 20 = .ok (.iconst 0, 1) := by decide +kernel
theorem dX8_begin_21 : decode cX8_begin 21 = .ok (.istore_n 2, 1) := by decide +kernel
theorem dX8_begin_22 : decode cX8_begin 22 = .ok (.iload_n 2, 1) := by decide +kernel
theorem dX8_begin_23 : decode cX8_begin 23 = .ok (.aload_n 0, 1) := by decide +kernel
theorem dX8_begin_24 : decode cX8_begin 24 = .ok (.getfield 9, 3) := by decide +kernel
theorem dX8_begin_27 : decode cX8_begin 27 = .ok (.if_icmp .ge 23, 3) := by decide +kernel
theorem dX8_begin_30 : decode cX8_begin 30 = .ok (.aload_n 0, 1) := by decide +kernel
theorem dX8_begin_31 : decode cX8_begin 31 = .ok (.getfield 18, 3) := by decide +kernel
theorem dX8_begin_34 : decode cX8_begin 34 = .ok (.iload_n 2, 1) := by decide +kernel
theorem dX8_begin_35 : decode cX8_begin 35 = .ok (.iconst (-1), 1) := by decide +kernel
theorem dX8_begin_36 : decode cX8_begin 36 = .ok (.iastore, 1) := by decide +kernel
theorem dX8_begin_37 : decode cX8_begin 37 = .ok (.aload_n 0, 1) := by decide +kernel
theorem dX8_begin_38 : decode cX8_begin 38 = .ok (.getfield 31, 3) := by decide +kernel
theorem dX8_begin_41 : decode cX8_begin 41 = .ok (.iload_n 2, 1) := by decide +kernel
theorem dX8_begin_42 : decode cX8_begin 42 = .ok (.iconst 0, 1) := by decide +kernel
theorem dX8_begin_43 : decode cX8_begin 43 = .ok (.iastore, 1) := by decide +kernel
theorem dX8_begin_44 : decode cX8_begin 44 = .ok (.iinc 2 1, 3) := by decide +kernel
theorem dX8_begin_47 : decode cX8_begin 47 = .ok (.goto (-25), 3) := by decide +kernel
theorem dX8_begin_50 : decode cX8_begin 50 = .ok (.return_, 1) := by decide +kernel
theorem dX8_join_0 : decode cX8_join 0 = .ok (.iload_n 1, 1) := by decide +kernel
theorem dX8_join_1 : decode cX8_join 1 = .ok (.ifCond .lt 38, 3) := by decide +kernel
theorem dX8_join_4 : decode cX8_join 4 = .ok (.iload_n 1, 1) := by decide +kernel
theorem dX8_join_5 : decode cX8_join 5 = .ok (.aload_n 0, 1) := by decide +kernel
theorem dX8_join_6 : decode cX8_join 6 = .ok (.getfield 9, 3) := by decide +kernel
theorem dX8_join_9 : decode cX8_join 9 = .ok (.if_icmp .ge 30, 3) := by decide +kernel
theorem dX8_join_12 : decode cX8_join 12 = .ok (.iload_n 2, 1) := by decide +kernel
theorem dX8_join_13 : decode cX8_join 13 = .ok (.ifCond .lt 26, 3) := by decide +kernel
theorem dX8_join_16 : decode cX8_join 16 = .ok (.iload_n 2, 1) := by decide +kernel
theorem dX8_join_17 : decode cX8_join 17 = .ok (.aload_n 0, 1) := by decide +kernel
theorem dX8_join_18 : decode cX8_join 18 = .ok (.getfield 9, 3) := by decide +kernel
theorem dX8_join_21 : decode cX8_join 21 = .ok (.if_icmp .ge 18, 3) := by decide +kernel
theorem dX8_join_24 : decode cX8_join 24 = .ok (.iload_n 1, 1) := by decide +kernel
theorem dX8_join_25 : decode cX8_join 25 = .ok (.iload_n 2, 1) := by decide +kernel
theorem dX8_join_26 : decode cX8_join 26 = .ok (.if_icmp .eq 13, 3) := by decide +kernel
theorem dX8_join_29 : decode cX8_join 29 = .ok (.aload_n 0, 1) := by decide +kernel
theorem dX8_join_30 : decode cX8_join 30 = .ok (.getfield 15, 3) := by decide +kernel
theorem dX8_join_33 : decode cX8_join 33 = .ok (.sipush 1198, 3) := by decide +kernel
theorem dX8_join_36 : decode cX8_join 36 = .ok (.if_icmp .le 4, 3) := by decide +kernel
theorem dX8_join_39 : decode cX8_join 39 = .ok (.return_, 1) := by decide +kernel
theorem dX8_join_40 : decode cX8_join 40 = .ok (.aload_n 0, 1) := by decide +kernel
theorem dX8_join_41 : decode cX8_join 41 = .ok (.getfield 25, 3) := by decide +kernel
theorem dX8_join_44 : decode cX8_join 44 = .ok (.aload_n 0, 1) := by decide +kernel
theorem dX8_join_45 : decode cX8_join 45 = .ok (.getfield 15, 3) := by decide +kernel
theorem dX8_join_48 : decode cX8_join 48 = .ok (.iload_n 2, 1) := by decide +kernel
theorem dX8_join_49 : decode cX8_join 49 = .ok (.iastore, 1) := by decide +kernel
theorem dX8_join_50 : decode cX8_join 50 = .ok (.aload_n 0, 1) := by decide +kernel
theorem dX8_join_51 : decode cX8_join 51 = .ok (.getfield 28, 3) := by decide +kernel
theorem dX8_join_54 : decode cX8_join 54 = .ok (.aload_n 0, 1) := by decide +kernel
theorem dX8_join_55 : decode cX8_join 55 = .ok (.getfield 15, 3) := by decide +kernel
theorem dX8_join_58 : decode cX8_join 58 = .ok (.iload_n 3, 1) := by decide +kernel
theorem dX8_join_59 : decode cX8_join 59 = .ok (.iastore, 1) := by decide +kernel
theorem dX8_join_60 : decode cX8_join 60 = .ok (.aload_n 0, 1) := by decide +kernel
theorem dX8_join_61 : decode cX8_join 61 = .ok (.getfield 22, 3) := by decide +kernel
theorem dX8_join_64 : decode cX8_join 64 = .ok (.aload_n 0, 1) := by decide +kernel
theorem dX8_join_65 : decode cX8_join 65 = .ok (.getfield 15, 3) := by decide +kernel
theorem dX8_join_68 : decode cX8_join 68 = .ok (.aload_n 0, 1) := by decide +kernel
theorem dX8_join_69 : decode cX8_join 69 = .ok (.getfield 18, 3) := by decide +kernel
theorem dX8_join_72 : decode cX8_join 72 = .ok (.iload_n 1, 1) := by decide +kernel
theorem dX8_join_73 : decode cX8_join 73 = .ok (.iaload, 1) := by decide +kernel
theorem dX8_join_74 : decode cX8_join 74 = .ok (.iastore, 1) := by decide +kernel
theorem dX8_join_75 : decode cX8_join 75 = .ok (.aload_n 0, 1) := by decide +kernel
theorem dX8_join_76 : decode cX8_join 76 = .ok (.getfield 18, 3) := by decide +kernel
theorem dX8_join_79 : decode cX8_join 79 = .ok (.iload_n 1, 1) := by decide +kernel
theorem dX8_join_80 : decode cX8_join 80 = .ok (.aload_n 0, 1) := by decide +kernel
theorem dX8_join_81 : decode cX8_join 81 = .ok (.getfield 15, 3) := by decide +kernel
theorem dX8_join_84 : decode cX8_join 84 = .ok (.iastore, 1) := by decide +kernel
theorem dX8_join_85 : decode cX8_join 85 = .ok (.aload_n 0, 1) := by decide +kernel
theorem dX8_join_86 : decode cX8_join 86 = .ok (.getfield 25, 3) := by decide +kernel
theorem dX8_join_89 : decode cX8_join 89 = .ok (.aload_n 0, 1) := by decide +kernel
theorem dX8_join_90 : decode cX8_join 90 = .ok (.getfield 15, 3) := by decide +kernel
theorem dX8_join_93 : decode cX8_join 93 = .ok (.iconst 1, 1) := by decide +kernel
theorem dX8_join_94 : decode cX8_join 94 = .ok (.iadd, 1) := by decide +kernel
theorem dX8_join_95 : decode cX8_join 95 = .ok (.iload_n 1, 1) := by decide +kernel
theorem dX8_join_96 : decode cX8_join 96 = .ok (.iastore, 1) := by decide +kernel
theorem dX8_join_97 : decode cX8_join 97 = .ok (.aload_n 0, 1) := by decide +kernel
theorem dX8_join_98 : decode cX8_join 98 = .ok (.getfield 28, 3) := by decide +kernel
theorem dX8_join_101 : decode cX8_join 101 = .ok (.aload_n 0, 1) := by decide +kernel
theorem dX8_join_102 : decode cX8_join 102 = .ok (.getfield 15, 3) := by decide +kernel
theorem dX8_join_105 : decode cX8_join 105 = .ok (.iconst 1, 1) := by decide +kernel
theorem dX8_join_106 : decode cX8_join 106 = .ok (.iadd, 1) := by decide +kernel
theorem dX8_join_107 : decode cX8_join 107 = .ok (.iload 4, 2) := by decide +kernel
theorem dX8_join_109 : decode cX8_join 109 = .ok (.iastore, 1) := by decide +kernel
theorem dX8_join_110 : decode cX8_join 110 = .ok (.aload_n 0, 1) := by decide +kernel
theorem dX8_join_111 : decode cX8_join 111 = .ok (.getfield 22, 3) := by decide +kernel
theorem dX8_join_114 : decode cX8_join 114 = .ok (.aload_n 0, 1) := by decide +kernel
theorem dX8_join_115 : decode cX8_join 115 = .ok (.getfield 15, 3) := by decide +kernel
theorem dX8_join_118 : decode cX8_join 118 = .ok (.iconst 1, 1) := by decide +kernel
theorem dX8_join_119 : decode cX8_join 119 = .ok (.iadd, 1) := by decide +kernel
theorem dX8_join_120 : decode cX8_join 120 = .ok (.aload_n 0, 1) := by decide +kernel
theorem dX8_join_121 : decode cX8_join 121 = .ok (.getfield 18, 3) := by decide +kernel
theorem dX8_join_124 : decode cX8_join 124 = .ok (.iload_n 2, 1) := by decide +kernel
theorem dX8_join_125 : decode cX8_join 125 = .ok (.iaload, 1) := by decide +kernel
theorem dX8_join_126 : decode cX8_join 126 = .ok (.iastore, 1) := by decide +kernel
theorem dX8_join_127 : decode cX8_join 127 = .ok (.aload_n 0, 1) := by decide +kernel
theorem dX8_join_128 : decode cX8_join 128 = .ok (.getfield 18, 3) := by decide +kernel
theorem dX8_join_131 : decode cX8_join 131 = .ok (.iload_n 2, 1) := by decide +kernel
theorem dX8_join_132 : decode cX8_join 132 = .ok (.aload_n 0, 1) := by decide +kernel
theorem dX8_join_133 : decode cX8_join 133 = .ok (.getfield 15, 3) := by decide +kernel
theorem dX8_join_136 : decode cX8_join 136 = .ok (.iconst 1, 1) := by decide +kernel
theorem dX8_join_137 : decode cX8_join 137 = .ok (.iadd, 1) := by decide +kernel
theorem dX8_join_138 : decode cX8_join 138 = .ok (.iastore, 1) := by decide +kernel
theorem dX8_join_139 : decode cX8_join 139 = .ok (.aload_n 0, 1) := by decide +kernel
theorem dX8_join_140 : decode cX8_join 140 = .ok (.dup, 1) := by decide +kernel
theorem dX8_join_141 : decode cX8_join 141 = .ok (.getfield 15, 3) := by decide +kernel
theorem dX8_join_144 : decode cX8_join 144 = .ok (.iconst 2, 1) := by decide +kernel
theorem dX8_join_145 : decode cX8_join 145 = .ok (.iadd, 1) := by decide +kernel
theorem dX8_join_146 : decode cX8_join 146 = .ok (.putfield 15, 3) := by decide +kernel
theorem dX8_join_149 : decode cX8_join 149 = .ok (.return_, 1) := by decide +kernel
theorem dX8_spread_0 : decode cX8_spread 0 = .ok (.iload_n 1, 1) := by decide +kernel
theorem dX8_spread_1 : decode cX8_spread 1 = .ok (.ifCond .lt 11, 3) := by decide +kernel
theorem dX8_spread_4 : decode cX8_spread 4 = .ok (.iload_n 1, 1) := by decide +kernel
theorem dX8_spread_5 : decode cX8_spread 5 = .ok (.aload_n 0, 1) := by decide +kernel
theorem dX8_spread_6 : decode cX8_spread 6 = .ok (.getfield 9, 3) := by decide +kernel
theorem dX8_spread_9 : decode cX8_spread 9 = .ok (.if_icmp .lt 4, 3) := by decide +kernel
theorem dX8_spread_12 : decode cX8_spread 12 = .ok (.return_, 1) := by decide +kernel
theorem dX8_spread_13 : decode cX8_spread 13 = .ok (.aload_n 0, 1) := by decide +kernel
theorem dX8_spread_14 : decode cX8_spread 14 = .ok (.getfield 31, 3) := by decide +kernel
theorem dX8_spread_17 : decode cX8_spread 17 = .ok (.iload_n 1, 1) := by decide +kernel
theorem dX8_spread_18 : decode cX8_spread 18 = .ok (.dup2, 1) := by decide +kernel
theorem dX8_spread_19 : decode cX8_spread 19 = .ok (.iaload, 1) := by decide +kernel
theorem dX8_spread_20 : decode cX8_spread 20 = .ok (.iload_n 2, 1) := by decide +kernel
theorem dX8_spread_21 : decode cX8_spread 21 = .ok (.ior, 1) := by decide +kernel
theorem dX8_spread_22 : decode cX8_spread 22 = .ok (.iastore, 1) := by decide +kernel
theorem dX8_spread_23 : decode cX8_spread 23 = .ok (.aload_n 0, 1) := by decide +kernel
theorem dX8_spread_24 : decode cX8_spread 24 = .ok (.getfield 34, 3) := by decide +kernel
theorem dX8_spread_27 : decode cX8_spread 27 = .ok (.iconst 0, 1) := by decide +kernel
theorem dX8_spread_28 : decode cX8_spread 28 = .ok (.iload_n 1, 1) := by decide +kernel
theorem dX8_spread_29 : decode cX8_spread 29 = .ok (.iastore, 1) := by decide +kernel
theorem dX8_spread_30 : decode cX8_spread 30 = .ok (.iconst 1, 1) := by decide +kernel
theorem dX8_spread_31 : decode cX8_spread 31 = .ok (.istore_n 3, 1) := by decide +kernel
theorem dX8_spread_32 : decode cX8_spread 32 = .ok (.iconst 0, 1) := by decide +kernel
theorem dX8_spread_33 : decode cX8_spread 33 = .ok (.istore 4, 2) := by decide +kernel
theorem dX8_spread_35 : decode cX8_spread 35 = .ok (.iload 4, 2) := by decide +kernel
theorem dX8_spread_37 : decode cX8_spread 37 = .ok (.iload_n 3, 1) := by decide +kernel
theorem dX8_spread_38 : decode cX8_spread 38 = .ok (.if_icmp .ge 128, 3) := by decide +kernel
theorem dX8_spread_41 : decode cX8_spread 41 = .ok (.iload 4, 2) := by decide +kernel
theorem dX8_spread_43 : decode cX8_spread 43 = .ok (.aload_n 0, 1) := by decide +kernel
theorem dX8_spread_44 : decode cX8_spread 44 = .ok (.getfield 9, 3) := by decide +kernel
theorem dX8_spread_47 : decode cX8_spread 47 = .ok (.if_icmp .ge 119, 3) := by decide +kernel
theorem dX8_spread_50 : decode cX8_spread 50 = .ok (.aload_n 0, 1) := by decide +kernel
theorem dX8_spread_51 : decode cX8_spread 51 = .ok (.getfield 18, 3) := by decide +kernel
theorem dX8_spread_54 : decode cX8_spread 54 = .ok (.aload_n 0, 1) := by decide +kernel
theorem dX8_spread_55 : decode cX8_spread 55 = .ok (.getfield 34, 3) := by decide +kernel
theorem dX8_spread_58 : decode cX8_spread 58 = .ok (.iload 4, 2) := by decide +kernel
theorem dX8_spread_60 : decode cX8_spread 60 = .ok (.iaload, 1) := by decide +kernel
theorem dX8_spread_61 : decode cX8_spread 61 = .ok (.iaload, 1) := by decide +kernel
theorem dX8_spread_62 : decode cX8_spread 62 = .ok (.istore 5, 2) := by decide +kernel
theorem dX8_spread_64 : decode cX8_spread 64 = .ok (.iconst 0, 1) := by decide +kernel
theorem dX8_spread_65 : decode cX8_spread 65 = .ok (.istore 6, 2) := by decide +kernel
theorem dX8_spread_67 : decode cX8_spread 67 = .ok (.iload 6, 2) := by decide +kernel
theorem dX8_spread_69 : decode cX8_spread 69 = .ok (.aload_n 0, 1) := by decide +kernel
theorem dX8_spread_70 : decode cX8_spread 70 = .ok (.getfield 15, 3) := by decide +kernel
theorem dX8_spread_73 : decode cX8_spread 73 = .ok (.if_icmp .ge 87, 3) := by decide +kernel
theorem dX8_spread_76 : decode cX8_spread 76 = .ok (.iload 5, 2) := by decide +kernel
theorem dX8_spread_78 : decode cX8_spread 78 = .ok (.iconst (-1), 1) := by decide +kernel
theorem dX8_spread_79 : decode cX8_spread 79 = .ok (.if_icmp .eq 81, 3) := by decide +kernel
theorem dX8_spread_82 : decode cX8_spread 82 = .ok (.aload_n 0, 1) := by decide +kernel
theorem dX8_spread_83 : decode cX8_spread 83 = .ok (.getfield 25, 3) := by decide +kernel
theorem dX8_spread_86 : decode cX8_spread 86 = .ok (.iload 5, 2) := by decide +kernel
theorem dX8_spread_88 : decode cX8_spread 88 = .ok (.iaload, 1) := by decide +kernel
theorem dX8_spread_89 : decode cX8_spread 89 = .ok (.istore 7, 2) := by decide +kernel
theorem dX8_spread_91 : decode cX8_spread 91 = .ok (.aload_n 0, 1) := by decide +kernel
theorem dX8_spread_92 : decode cX8_spread 92 = .ok (.getfield 28, 3) := by decide +kernel
theorem dX8_spread_95 : decode cX8_spread 95 = .ok (.iload 5, 2) := by decide +kernel
theorem dX8_spread_97 : decode cX8_spread 97 = .ok (.iaload, 1) := by decide +kernel
theorem dX8_spread_98 : decode cX8_spread 98 = .ok (.iload_n 2, 1) := by decide +kernel
theorem dX8_spread_99 : decode cX8_spread 99 = .ok (.iand, 1) := by decide +kernel
theorem dX8_spread_100 : decode cX8_spread 100 = .ok (.ifCond .eq 45, 3) := by decide +kernel
theorem dX8_spread_103 : decode cX8_spread 103 = .ok (.aload_n 0, 1) := by decide +kernel
theorem dX8_spread_104 : decode cX8_spread 104 = .ok (.getfield 31, 3) := by decide +kernel
theorem dX8_spread_107 : decode cX8_spread 107 = .ok (.iload 7, 2) := by decide +kernel
theorem dX8_spread_109 : decode cX8_spread 109 = .ok (.iaload, 1) := by decide +kernel
theorem dX8_spread_110 : decode cX8_spread 110 = .ok (.iload_n 2, 1) := by decide +kernel
theorem dX8_spread_111 : decode cX8_spread 111 = .ok (.iand, 1) := by decide +kernel
theorem dX8_spread_112 : decode cX8_spread 112 = .ok (.ifCond .ne 33, 3) := by decide +kernel
theorem dX8_spread_115 : decode cX8_spread 115 = .ok (.iload_n 3, 1) := by decide +kernel
theorem dX8_spread_116 : decode cX8_spread 116 = .ok (.aload_n 0, 1) := by decide +kernel
theorem dX8_spread_117 : decode cX8_spread 117 = .ok (.getfield 9, 3) := by decide +kernel
theorem dX8_spread_120 : decode cX8_spread 120 = .ok (.if_icmp .ge 25, 3) := by decide +kernel
theorem dX8_spread_123 : decode cX8_spread 123 = .ok (.aload_n 0, 1) := by decide +kernel
theorem dX8_spread_124 : decode cX8_spread 124 = .ok (.getfield 31, 3) := by decide +kernel
theorem dX8_spread_127 : decode cX8_spread 127 = .ok (.iload 7, 2) := by decide +kernel
theorem dX8_spread_129 : decode cX8_spread 129 = .ok (.dup2, 1) := by decide +kernel
theorem dX8_spread_130 : decode cX8_spread 130 = .ok (.iaload, 1) := by decide +kernel
theorem dX8_spread_131 : decode cX8_spread 131 = .ok (.iload_n 2, 1) := by decide +kernel
theorem dX8_spread_132 : decode cX8_spread 132 = .ok (.ior, 1) := by decide +kernel
theorem dX8_spread_133 : decode cX8_spread 133 = .ok (.iastore, 1) := by decide +kernel
theorem dX8_spread_134 : decode cX8_spread 134 = .ok (.aload_n 0, 1) := by decide +kernel
theorem dX8_spread_135 : decode cX8_spread 135 = .ok (.getfield 34, 3) := by decide +kernel
theorem dX8_spread_138 : decode cX8_spread 138 = .ok (.iload_n 3, 1) := by decide +kernel
theorem dX8_spread_139 : decode cX8_spread 139 = .ok (.iload 7, 2) := by decide +kernel
theorem dX8_spread_141 : decode cX8_spread 141 = .ok (.iastore, 1) := by decide +kernel
theorem dX8_spread_142 : decode cX8_spread 142 = .ok (.iinc 3 1, 3) := by decide +kernel
theorem dX8_spread_145 : decode cX8_spread 145 = .ok (.aload_n 0, 1) := by decide +kernel
theorem dX8_spread_146 : decode cX8_spread 146 = .ok (.getfield 22, 3) := by decide +kernel
theorem dX8_spread_149 : decode cX8_spread 149 = .ok (.iload 5, 2) := by decide +kernel
theorem dX8_spread_151 : decode cX8_spread 151 = .ok (.iaload, 1) := by decide +kernel
theorem dX8_spread_152 : decode cX8_spread 152 = .ok (.istore 5, 2) := by decide +kernel
theorem dX8_spread_154 : decode cX8_spread 154 = .ok (.iinc 6 1, 3) := by decide +kernel
theorem dX8_spread_157 : decode cX8_spread 157 = .ok (.goto (-90), 3) := by decide +kernel
theorem dX8_spread_160 : decode cX8_spread 160 = .ok (.iinc 4 1, 3) := by decide +kernel
theorem dX8_spread_163 : decode cX8_spread 163 = .ok (.goto (-128), 3) := by decide +kernel
theorem dX8_spread_166 : decode cX8_spread 166 = .ok (.return_, 1) := by decide +kernel
theorem dX8_at_0 : decode cX8_at 0 = .ok (.iload_n 1, 1) := by decide +kernel
theorem dX8_at_1 : decode cX8_at 1 = .ok (.ifCond .lt 11, 3) := by decide +kernel
theorem dX8_at_4 : decode cX8_at 4 = .ok (.iload_n 1, 1) := by decide +kernel
theorem dX8_at_5 : decode cX8_at 5 = .ok (.aload_n 0, 1) := by decide +kernel
theorem dX8_at_6 : decode cX8_at 6 = .ok (.getfield 9, 3) := by decide +kernel
theorem dX8_at_9 : decode cX8_at 9 = .ok (.if_icmp .lt 7, 3) := by decide +kernel
theorem dX8_at_12 : decode cX8_at 12 = .ok (.iconst 0, 1) := by decide +kernel
theorem dX8_at_13 : decode cX8_at 13 = .ok (.goto 9, 3) := by decide +kernel
theorem dX8_at_16 : decode cX8_at 16 = .ok (.aload_n 0, 1) := by decide +kernel
theorem dX8_at_17 : decode cX8_at 17 = .ok (.getfield 31, 3) := by decide +kernel
theorem dX8_at_20 : decode cX8_at 20 = .ok (.iload_n 1, 1) := by decide +kernel
theorem dX8_at_21 : decode cX8_at 21 = .ok (.iaload, 1) := by decide +kernel
theorem dX8_at_22 : decode cX8_at 22 = .ok (.ireturn, 1) := by decide +kernel
theorem dX9_init_0 : decode cX9_init 0 = .ok (.aload_n 0, 1) := by decide +kernel
theorem dX9_init_1 : decode cX9_init 1 = .ok (.invokespecial 3, 3) := by decide +kernel
theorem dX9_init_4 : decode cX9_init 4 = .ok (.aload_n 0, 1) := by decide +kernel
theorem dX9_init_5 : decode cX9_init 5 = .ok (.sipush 240, 3) := by decide +kernel
theorem dX9_init_8 : decode cX9_init 8 = .ok (.newarray .int, 2) := by decide +kernel
theorem dX9_init_10 : decode cX9_init 10 = .ok (.putfield 9, 3) := by decide +kernel
theorem dX9_init_13 : decode cX9_init 13 = .ok (.aload_n 0, 1) := by decide +kernel
theorem dX9_init_14 : decode cX9_init 14 = .ok (.sipush 240, 3) := by decide +kernel
theorem dX9_init_17 : decode cX9_init 17 = .ok (.newarray .boolean, 2) := by decide +kernel
theorem dX9_init_19 : decode cX9_init 19 = .ok (.putfield 15, 3) := by decide +kernel
theorem dX9_init_22 : decode cX9_init 22 = .ok (.aload_n 0, 1) := by decide +kernel
theorem dX9_init_23 : decode cX9_init 23 = .ok (.invokevirtual 19, 3) := by decide +kernel
theorem dX9_init_26 : decode cX9_init 26 = .ok (.return_, 1) := by decide +kernel
theorem dX9_clear_0 : decode cX9_clear 0 = .ok (.iconst 0, 1) := by decide +kernel
theorem dX9_clear_1 : decode cX9_clear 1 = .ok (.istore_n 1, 1) := by decide +kernel
theorem dX9_clear_2 : decode cX9_clear 2 = .ok (.iload_n 1, 1) := by decide +kernel
theorem dX9_clear_3 : decode cX9_clear 3 = .ok (.aload_n 0, 1) := by decide +kernel
theorem dX9_clear_4 : decode cX9_clear 4 = .ok (.getfield 9, 3) := by decide +kernel
theorem dX9_clear_7 : decode cX9_clear 7 = .ok (.arraylength, 1) := by decide +kernel
theorem dX9_clear_8 : decode cX9_clear 8 = .ok (.if_icmp .ge 23, 3) := by decide +kernel
theorem dX9_clear_11 : decode cX9_clear 11 = .ok (.aload_n 0, 1) := by decide +kernel
theorem dX9_clear_12 : decode cX9_clear 12 = .ok (.getfield 9, 3) := by decide +kernel
theorem dX9_clear_15 : decode cX9_clear 15 = .ok (.iload_n 1, 1) := by decide +kernel
theorem dX9_clear_16 : decode cX9_clear 16 = .ok (.iconst (-1), 1) := by decide +kernel
theorem dX9_clear_17 : decode cX9_clear 17 = .ok (.iastore, 1) := by decide +kernel
theorem dX9_clear_18 : decode cX9_clear 18 = .ok (.aload_n 0, 1) := by decide +kernel
theorem dX9_clear_19 : decode cX9_clear 19 = .ok (.getfield 15, 3) := by decide +kernel
theorem dX9_clear_22 : decode cX9_clear 22 = .ok (.iload_n 1, 1) := by decide +kernel
theorem dX9_clear_23 : decode cX9_clear 23 = .ok (.iconst 0, 1) := by decide +kernel
theorem dX9_clear_24 : decode cX9_clear 24 = .ok (.bastore, 1) := by decide +kernel
theorem dX9_clear_25 : decode cX9_clear 25 = .ok (.iinc 1 1, 3) := by decide +kernel
theorem dX9_clear_28 : decode cX9_clear 28 = .ok (.goto (-26), 3) := by decide +kernel
theorem dX9_clear_31 : decode cX9_clear 31 = .ok (.return_, 1) := by decide +kernel
theorem dX10_init_0 : decode cX10_init 0 = .ok (.aload_n 0, 1) := by decide +kernel
theorem dX10_init_1 : decode cX10_init 1 = .ok (.invokespecial 1, 3) := by decide +kernel
theorem dX10_init_4 : decode cX10_init 4 = .ok (.aload_n 0, 1) := by decide +kernel
theorem dX10_init_5 : decode cX10_init 5 = .ok (.sipush 4000, 3) := by decide +kernel
theorem dX10_init_8 : decode cX10_init 8 = .ok (.newarray .byte, 2) := by decide +kernel
theorem dX10_init_10 : decode cX10_init 10 = .ok (.putfield 9, 3) := by decide +kernel
theorem dX10_init_13 : decode cX10_init 13 = .ok (.aload_n 0, 1) := by decide +kernel
theorem dX10_init_14 : decode cX10_init 14 = .ok (.iconst 0, 1) := by decide +kernel
theorem dX10_init_15 : decode cX10_init 15 = .ok (.putfield 13, 3) := by decide +kernel
theorem dX10_init_18 : decode cX10_init 18 = .ok (.aload_n 0, 1) := by decide +kernel
theorem dX10_init_19 : decode cX10_init 19 = .ok (.iconst 0, 1) := by decide +kernel
theorem dX10_init_20 : decode cX10_init 20 = .ok (.putfield 17, 3) := by decide +kernel
theorem dX10_init_23 : decode cX10_init 23 = .ok (.aload_n 0, 1) := by decide +kernel
theorem dX10_init_24 : decode cX10_init 24 = .ok (.iconst (-1), 1) := by decide +kernel
theorem dX10_init_25 : decode cX10_init 25 = .ok (.putfield 20, 3) := by decide +kernel
theorem dX10_init_28 : decode cX10_init 28 = .ok (.aload_n 0, 1) := by decide +kernel
theorem dX10_init_29 : decode cX10_init 29 = .ok (.new 23, 3) := by decide +kernel
theorem dX10_init_32 : decode cX10_init 32 = .ok (.dup, 1) := by decide +kernel
theorem dX10_init_33 : decode cX10_init 33 = .ok (.invokespecial 25, 3) := by decide +kernel
theorem dX10_init_36 : decode cX10_init 36 = .ok (.putfield 26, 3) := by decide +kernel
theorem dX10_init_39 : decode cX10_init 39 = .ok (.aload_n 0, 1) := by decide +kernel
theorem dX10_init_40 : decode cX10_init 40 = .ok (.new 30, 3) := by decide +kernel
theorem dX10_init_43 : decode cX10_init 43 = .ok (.dup, 1) := by decide +kernel
theorem dX10_init_44 : decode cX10_init 44 = .ok (.invokespecial 32, 3) := by decide +kernel
theorem dX10_init_47 : decode cX10_init 47 = .ok (.putfield 33, 3) := by decide +kernel
theorem dX10_init_50 : decode cX10_init 50 = .ok (.aload_n 0, 1) := by decide +kernel
theorem dX10_init_51 : decode cX10_init 51 = .ok (.new 37, 3) := by decide +kernel
theorem dX10_init_54 : decode cX10_init 54 = .ok (.dup, 1) := by decide +kernel
theorem dX10_init_55 : decode cX10_init 55 = .ok (.invokespecial 39, 3) := by decide +kernel
theorem dX10_init_58 : decode cX10_init 58 = .ok (.putfield 40, 3) := by decide +kernel
theorem dX10_init_61 : decode cX10_init 61 = .ok (.aload_n 0, 1) := by decide +kernel
theorem dX10_init_62 : decode cX10_init 62 = .ok (.new 44, 3) := by decide +kernel
theorem dX10_init_65 : decode cX10_init 65 = .ok (.dup, 1) := by decide +kernel
theorem dX10_init_66 : decode cX10_init 66 = .ok (.invokespecial 46, 3) := by decide +kernel
theorem dX10_init_69 : decode cX10_init 69 = .ok (.putfield 47, 3) := by decide +kernel
theorem dX10_init_72 : decode cX10_init 72 = .ok (.aload_n 0, 1) := by decide +kernel
theorem dX10_init_73 : decode cX10_init 73 = .ok (.new 51, 3) := by decide +kernel
theorem dX10_init_76 : decode cX10_init 76 = .ok (.dup, 1) := by decide +kernel
theorem dX10_init_77 : decode cX10_init 77 = .ok (.invokespecial 53, 3) := by decide +kernel
theorem dX10_init_80 : decode cX10_init 80 = .ok (.putfield 54, 3) := by decide +kernel
theorem dX10_init_83 : decode cX10_init 83 = .ok (.return_, 1) := by decide +kernel
theorem dX10_feed_0 : decode cX10_feed 0 = .ok (.aload_n 0, 1) := by decide +kernel
theorem dX10_feed_1 : decode cX10_feed 1 = .ok (.getfield 13, 3) := by decide +kernel
theorem dX10_feed_4 : decode cX10_feed 4 = .ok (.sipush 3980, 3) := by decide +kernel
theorem dX10_feed_7 : decode cX10_feed 7 = .ok (.if_icmp .le 5, 3) := by decide +kernel
theorem dX10_feed_10 : decode cX10_feed 10 = .ok (.iconst (-1), 1) := by decide +kernel
theorem dX10_feed_11 : decode cX10_feed 11 = .ok (.ireturn, 1) := by decide +kernel
theorem dX10_feed_12 : decode cX10_feed 12 = .ok (.aload_n 0, 1) := by decide +kernel
theorem dX10_feed_13 : decode cX10_feed 13 = .ok (.iload_n 1, 1) := by decide +kernel
theorem dX10_feed_14 : decode cX10_feed 14 = .ok (.invokevirtual 58, 3) := by decide +kernel
theorem dX10_feed_17 : decode cX10_feed 17 = .ok (.aload_n 0, 1) := by decide +kernel
theorem dX10_feed_18 : decode cX10_feed 18 = .ok (.iload_n 2, 1) := by decide +kernel
theorem dX10_feed_19 : decode cX10_feed 19 = .ok (.invokevirtual 58, 3) := by decide +kernel
theorem dX10_feed_22 : decode cX10_feed 22 = .ok (.aload_n 0, 1) := by decide +kernel
theorem dX10_feed_23 : decode cX10_feed 23 = .ok (.iload_n 3, 1) := by decide +kernel
theorem dX10_feed_24 : decode cX10_feed 24 = .ok (.invokevirtual 58, 3) := by decide +kernel
theorem dX10_feed_27 : decode cX10_feed 27 = .ok (.aload_n 0, 1) := by decide +kernel
theorem dX10_feed_28 : decode cX10_feed 28 = .ok (.iload 4, 2) := by decide +kernel
theorem dX10_feed_30 : decode cX10_feed 30 = .ok (.invokevirtual 58, 3) := by decide +kernel
theorem dX10_feed_33 : decode cX10_feed 33 = .ok (.aload_n 0, 1) := by decide +kernel
theorem dX10_feed_34 : decode cX10_feed 34 = .ok (.iload 5, 2) := by decide +kernel
theorem dX10_feed_36 : decode cX10_feed 36 = .ok (.invokevirtual 58, 3) := by decide +kernel
theorem dX10_feed_39 : decode cX10_feed 39 = .ok (.aload_n 0, 1) := by decide +kernel
theorem dX10_feed_40 : decode cX10_feed 40 = .ok (.getfield 13, 3) := by decide +kernel
theorem dX10_feed_43 : decode cX10_feed 43 = .ok (.ireturn, 1) := by decide +kernel
theorem dX10_feedNumber_0 : decode cX10_feedNumber 0 = .ok (.bipush 24, 2) := by decide +kernel
theorem dX10_feedNumber_2 : decode cX10_feedNumber 2 = .ok (.istore_n 2, 1) := by decide +kernel
theorem dX10_feedNumber_3 : decode cX10_feedNumber 3 = .ok (.iload_n 2, 1) := by decide +kernel
theorem dX10_feedNumber_4 : decode cX10_feedNumber 4 = .ok (.ifCond .lt 42, 3) := by decide +kernel
theorem dX10_feedNumber_7 : decode cX10_feedNumber 7 = .ok (.aload_n 0, 1) := by decide +kernel
theorem dX10_feedNumber_8 : decode cX10_feedNumber 8 = .ok (.getfield 13, 3) := by decide +kernel
theorem dX10_feedNumber_11 : decode cX10_feedNumber 11 = .ok (.sipush 4000, 3) := by decide +kernel
theorem dX10_feedNumber_14 : decode cX10_feedNumber 14 = .ok (.if_icmp .ge 32, 3) := by decide +kernel
theorem dX10_feedNumber_17 : decode cX10_feedNumber 17 = .ok (.aload_n 0, 1) := by decide +kernel
theorem dX10_feedNumber_18 : decode cX10_feedNumber 18 = .ok (.getfield 9, 3) := by decide +kernel
theorem dX10_feedNumber_21 : decode cX10_feedNumber 21 = .ok (.aload_n 0, 1) := by decide +kernel
theorem dX10_feedNumber_22 : decode cX10_feedNumber 22 = .ok (.getfield 13, 3) := by decide +kernel
theorem dX10_feedNumber_25 : decode cX10_feedNumber 25 = .ok (.iload_n 1, 1) := by decide +kernel
theorem dX10_feedNumber_26 : decode cX10_feedNumber 26 = .ok (.iload_n 2, 1) := by decide +kernel
theorem dX10_feedNumber_27 : decode cX10_feedNumber 27 = .ok (.ishr, 1) := by decide +kernel
theorem dX10_feedNumber_28 : decode cX10_feedNumber 28 = .ok (.i2b, 1) := by decide +kernel
theorem dX10_feedNumber_29 : decode cX10_feedNumber 29 = .ok (.bastore, 1) := by decide +kernel
theorem dX10_feedNumber_30 : decode cX10_feedNumber 30 = .ok (.aload_n 0, 1) := by decide +kernel
theorem dX10_feedNumber_31 : decode cX10_feedNumber 31 = .ok (.dup, 1) := by decide +kernel
theorem dX10_feedNumber_32 : decode cX10_feedNumber 32 = .ok (.getfield 13, 3) := by decide +kernel
theorem dX10_feedNumber_35 : decode cX10_feedNumber 35 = .ok (.iconst 1, 1) := by decide +kernel
theorem dX10_feedNumber_36 : decode cX10_feedNumber 36 = .ok (.iadd, 1) := by decide +kernel
theorem dX10_feedNumber_37 : decode cX10_feedNumber 37 = .ok (.putfield 13, 3) := by decide +kernel
theorem dX10_feedNumber_40 : decode cX10_feedNumber 40 = .ok (.iinc 2 (-8), 3) := by decide +kernel
theorem dX10_feedNumber_43 : decode cX10_feedNumber 43 = .ok (.goto (-40), 3) := by decide +kernel
theorem dX10_feedNumber_46 : decode cX10_feedNumber 46 = .ok (.return_, 1) := by decide +kernel
theorem dX10_load_0 : decode cX10_load 0 = .ok (.iload_n 1, 1) := by decide +kernel
theorem dX10_load_1 : decode cX10_load 1 = .ok (.ifCond .lt 11, 3) := by decide +kernel
theorem dX10_load_4 : decode cX10_load 4 = .ok (.iload_n 1, 1) := by decide +kernel
theorem dX10_load_5 : decode cX10_load 5 = .ok (.aload_n 0, 1) := by decide +kernel
theorem dX10_load_6 : decode cX10_load 6 = .ok (.getfield 13, 3) := by decide +kernel
