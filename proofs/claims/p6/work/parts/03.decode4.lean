abbrev cL_law : ByteArray := code
theorem dX11_look_336 : decode cX11_look 336 = .ok (.getfield 77, 3) := by decide +kernel
theorem dX11_look_339 : decode cX11_look 339 = .ok (.iload 4, 2) := by decide +kernel
theorem dX11_look_341 : decode cX11_look 341 = .ok (.baload, 1) := by decide +kernel
theorem dX11_look_342 : decode cX11_look 342 = .ok (.ifCond .ne 12, 3) := by decide +kernel
theorem dX11_look_345 : decode cX11_look 345 = .ok (.aload_n 0, 1) := by decide +kernel
theorem dX11_look_346 : decode cX11_look 346 = .ok (.getfield 77, 3) := by decide +kernel
theorem dX11_look_349 : decode cX11_look 349 = .ok (.iload_n 3, 1) := by decide +kernel
theorem dX11_look_350 : decode cX11_look 350 = .ok (.baload, 1) := by decide +kernel
theorem dX11_look_351 : decode cX11_look 351 = .ok (.ifCond .eq 7, 3) := by decide +kernel
theorem dX11_look_354 : decode cX11_look 354 = .ok (.iconst 1, 1) := by decide +kernel
theorem dX11_look_355 : decode cX11_look 355 = .ok (.goto 4, 3) := by decide +kernel
theorem dX11_look_358 : decode cX11_look 358 = .ok (.iconst 0, 1) := by decide +kernel
theorem dX11_look_359 : decode cX11_look 359 = .ok (.bastore, 1) := by decide +kernel
theorem dX11_look_360 : decode cX11_look 360 = .ok (.aload_n 0, 1) := by decide +kernel
theorem dX11_look_361 : decode cX11_look 361 = .ok (.getfield 80, 3) := by decide +kernel
theorem dX11_look_364 : decode cX11_look 364 = .ok (.iload_n 3, 1) := by decide +kernel
theorem dX11_look_365 : decode cX11_look 365 = .ok (.aload_n 0, 1) := by decide +kernel
theorem dX11_look_366 : decode cX11_look 366 = .ok (.getfield 80, 3) := by decide +kernel
theorem dX11_look_369 : decode cX11_look 369 = .ok (.iload_n 3, 1) := by decide +kernel
theorem dX11_look_370 : decode cX11_look 370 = .ok (.baload, 1) := by decide +kernel
theorem dX11_look_371 : decode cX11_look 371 = .ok (.ifCond .ne 13, 3) := by decide +kernel
theorem dX11_look_374 : decode cX11_look 374 = .ok (.aload_n 0, 1) := by decide +kernel
theorem dX11_look_375 : decode cX11_look 375 = .ok (.getfield 80, 3) := by decide +kernel
theorem dX11_look_378 : decode cX11_look 378 = .ok (.iload 4, 2) := by decide +kernel
theorem dX11_look_380 : decode cX11_look 380 = .ok (.baload, 1) := by decide +kernel
theorem dX11_look_381 : decode cX11_look 381 = .ok (.ifCond .eq 7, 3) := by decide +kernel
theorem dX11_look_384 : decode cX11_look 384 = .ok (.iconst 1, 1) := by decide +kernel
theorem dX11_look_385 : decode cX11_look 385 = .ok (.goto 4, 3) := by decide +kernel
theorem dX11_look_388 : decode cX11_look 388 = .ok (.iconst 0, 1) := by decide +kernel
theorem dX11_look_389 : decode cX11_look 389 = .ok (.bastore, 1) := by decide +kernel
theorem dX11_look_390 : decode cX11_look 390 = .ok (.iinc 2 1, 3) := by decide +kernel
theorem dX11_look_393 : decode cX11_look 393 = .ok (.goto (-146), 3) := by decide +kernel
theorem dX11_look_396 : decode cX11_look 396 = .ok (.goto (-157), 3) := by decide +kernel
theorem dX11_look_399 : decode cX11_look 399 = .ok (.return_, 1) := by decide +kernel
theorem dX11_contact1_0 : decode cX11_contact1 0 = .ok (.bipush 6, 2) := by decide +kernel
theorem dX11_contact1_2 : decode cX11_contact1 2 = .ok (.iload_n 1, 1) := by decide +kernel
theorem dX11_contact1_3 : decode cX11_contact1 3 = .ok (.imul, 1) := by decide +kernel
theorem dX11_contact1_4 : decode cX11_contact1 4 = .ok (.iload_n 2, 1) := by decide +kernel
theorem dX11_contact1_5 : decode cX11_contact1 5 = .ok (.iadd, 1) := by decide +kernel
theorem dX11_contact1_6 : decode cX11_contact1 6 = .ok (.istore_n 3, 1) := by decide +kernel
theorem dX11_contact1_7 : decode cX11_contact1 7 = .ok (.aload_n 0, 1) := by decide +kernel
theorem dX11_contact1_8 : decode cX11_contact1 8 = .ok (.getfield 71, 3) := by decide +kernel
theorem dX11_contact1_11 : decode cX11_contact1 11 = .ok (.iload_n 3, 1) := by decide +kernel
theorem dX11_contact1_12 : decode cX11_contact1 12 = .ok (.baload, 1) := by decide +kernel
theorem dX11_contact1_13 : decode cX11_contact1 13 = .ok (.ifCond .eq 4, 3) := by decide +kernel
theorem dX11_contact1_16 : decode cX11_contact1 16 = .ok (.return_, 1) := by decide +kernel
theorem dX11_contact1_17 : decode cX11_contact1 17 = .ok (.aload_n 0, 1) := by decide +kernel
theorem dX11_contact1_18 : decode cX11_contact1 18 = .ok (.getfield 68, 3) := by decide +kernel
theorem dX11_contact1_21 : decode cX11_contact1 21 = .ok (.iload_n 3, 1) := by decide +kernel
theorem dX11_contact1_22 : decode cX11_contact1 22 = .ok (.iaload, 1) := by decide +kernel
theorem dX11_contact1_23 : decode cX11_contact1 23 = .ok (.iconst (-1), 1) := by decide +kernel
theorem dX11_contact1_24 : decode cX11_contact1 24 = .ok (.if_icmp .ne 15, 3) := by decide +kernel
theorem dX11_contact1_27 : decode cX11_contact1 27 = .ok (.aload_n 0, 1) := by decide +kernel
theorem dX11_contact1_28 : decode cX11_contact1 28 = .ok (.getfield 65, 3) := by decide +kernel
theorem dX11_contact1_31 : decode cX11_contact1 31 = .ok (.bipush 80, 2) := by decide +kernel
theorem dX11_contact1_33 : decode cX11_contact1 33 = .ok (.iload_n 3, 1) := by decide +kernel
theorem dX11_contact1_34 : decode cX11_contact1 34 = .ok (.iadd, 1) := by decide +kernel
theorem dX11_contact1_35 : decode cX11_contact1 35 = .ok (.iaload, 1) := by decide +kernel
theorem dX11_contact1_36 : decode cX11_contact1 36 = .ok (.goto 9, 3) := by decide +kernel
theorem dX11_contact1_39 : decode cX11_contact1 39 = .ok (.aload_n 0, 1) := by decide +kernel
theorem dX11_contact1_40 : decode cX11_contact1 40 = .ok (.getfield 68, 3) := by decide +kernel
theorem dX11_contact1_43 : decode cX11_contact1 43 = .ok (.iload_n 3, 1) := by decide +kernel
theorem dX11_contact1_44 : decode cX11_contact1 44 = .ok (.iaload, 1) := by decide +kernel
theorem dX11_contact1_45 : decode cX11_contact1 45 = .ok (.istore 4, 2) := by decide +kernel
theorem dX11_contact1_47 : decode cX11_contact1 47 = .ok (.aload_n 0, 1) := by decide +kernel
theorem dX11_contact1_48 : decode cX11_contact1 48 = .ok (.getfield 49, 3) := by decide +kernel
theorem dX11_contact1_51 : decode cX11_contact1 51 = .ok (.bipush 116, 2) := by decide +kernel
theorem dX11_contact1_53 : decode cX11_contact1 53 = .ok (.aload_n 0, 1) := by decide +kernel
theorem dX11_contact1_54 : decode cX11_contact1 54 = .ok (.getfield 269, 3) := by decide +kernel
theorem dX11_contact1_57 : decode cX11_contact1 57 = .ok (.imul, 1) := by decide +kernel
theorem dX11_contact1_58 : decode cX11_contact1 58 = .ok (.iload_n 1, 1) := by decide +kernel
theorem dX11_contact1_59 : decode cX11_contact1 59 = .ok (.iadd, 1) := by decide +kernel
theorem dX11_contact1_60 : decode cX11_contact1 60 = .ok (.iaload, 1) := by decide +kernel
theorem dX11_contact1_61 : decode cX11_contact1 61 = .ok (.iload_n 2, 1) := by decide +kernel
theorem dX11_contact1_62 : decode cX11_contact1 62 = .ok (.ishr, 1) := by decide +kernel
theorem dX11_contact1_63 : decode cX11_contact1 63 = .ok (.iconst 1, 1) := by decide +kernel
theorem dX11_contact1_64 : decode cX11_contact1 64 = .ok (.iand, 1) := by decide +kernel
theorem dX11_contact1_65 : decode cX11_contact1 65 = .ok (.iconst 1, 1) := by decide +kernel
theorem dX11_contact1_66 : decode cX11_contact1 66 = .ok (.if_icmp .ne 7, 3) := by decide +kernel
theorem dX11_contact1_69 : decode cX11_contact1 69 = .ok (.iconst 1, 1) := by decide +kernel
theorem dX11_contact1_70 : decode cX11_contact1 70 = .ok (.goto 4, 3) := by decide +kernel
theorem dX11_contact1_73 : decode cX11_contact1 73 = .ok (.iconst 0, 1) := by decide +kernel
theorem dX11_contact1_74 : decode cX11_contact1 74 = .ok (.istore 5, 2) := by decide +kernel
theorem dX11_contact1_76 : decode cX11_contact1 76 = .ok (.iconst 2, 1) := by decide +kernel
theorem dX11_contact1_77 : decode cX11_contact1 77 = .ok (.bipush 20, 2) := by decide +kernel
theorem dX11_contact1_79 : decode cX11_contact1 79 = .ok (.iload_n 1, 1) := by decide +kernel
theorem dX11_contact1_80 : decode cX11_contact1 80 = .ok (.imul, 1) := by decide +kernel
theorem dX11_contact1_81 : decode cX11_contact1 81 = .ok (.iadd, 1) := by decide +kernel
theorem dX11_contact1_82 : decode cX11_contact1 82 = .ok (.iconst 2, 1) := by decide +kernel
theorem dX11_contact1_83 : decode cX11_contact1 83 = .ok (.iadd, 1) := by decide +kernel
theorem dX11_contact1_84 : decode cX11_contact1 84 = .ok (.iconst 3, 1) := by decide +kernel
theorem dX11_contact1_85 : decode cX11_contact1 85 = .ok (.iload_n 2, 1) := by decide +kernel
theorem dX11_contact1_86 : decode cX11_contact1 86 = .ok (.imul, 1) := by decide +kernel
theorem dX11_contact1_87 : decode cX11_contact1 87 = .ok (.iadd, 1) := by decide +kernel
theorem dX11_contact1_88 : decode cX11_contact1 88 = .ok (.istore 6, 2) := by decide +kernel
theorem dX11_contact1_90 : decode cX11_contact1 90 = .ok (.iload 4, 2) := by decide +kernel
theorem dX11_contact1_92 : decode cX11_contact1 92 = .ok (.ifCond .eq 14, 3) := by decide +kernel
theorem dX11_contact1_95 : decode cX11_contact1 95 = .ok (.iload 4, 2) := by decide +kernel
theorem dX11_contact1_97 : decode cX11_contact1 97 = .ok (.iconst 1, 1) := by decide +kernel
theorem dX11_contact1_98 : decode cX11_contact1 98 = .ok (.if_icmp .ne 18, 3) := by decide +kernel
theorem dX11_contact1_101 : decode cX11_contact1 101 = .ok (.iload 5, 2) := by decide +kernel
theorem dX11_contact1_103 : decode cX11_contact1 103 = .ok (.ifCond .eq 13, 3) := by decide +kernel
theorem dX11_contact1_106 : decode cX11_contact1 106 = .ok (.aload_n 0, 1) := by decide +kernel
theorem dX11_contact1_107 : decode cX11_contact1 107 = .ok (.iload 6, 2) := by decide +kernel
theorem dX11_contact1_109 : decode cX11_contact1 109 = .ok (.iload 6, 2) := by decide +kernel
theorem dX11_contact1_111 : decode cX11_contact1 111 = .ok (.iconst 2, 1) := by decide +kernel
theorem dX11_contact1_112 : decode cX11_contact1 112 = .ok (.iadd, 1) := by decide +kernel
theorem dX11_contact1_113 : decode cX11_contact1 113 = .ok (.invokevirtual 439, 3) := by decide +kernel
theorem dX11_contact1_116 : decode cX11_contact1 116 = .ok (.iload 4, 2) := by decide +kernel
theorem dX11_contact1_118 : decode cX11_contact1 118 = .ok (.iconst 2, 1) := by decide +kernel
theorem dX11_contact1_119 : decode cX11_contact1 119 = .ok (.if_icmp .eq 14, 3) := by decide +kernel
theorem dX11_contact1_122 : decode cX11_contact1 122 = .ok (.iload 4, 2) := by decide +kernel
theorem dX11_contact1_124 : decode cX11_contact1 124 = .ok (.iconst 1, 1) := by decide +kernel
theorem dX11_contact1_125 : decode cX11_contact1 125 = .ok (.if_icmp .ne 18, 3) := by decide +kernel
theorem dX11_contact1_128 : decode cX11_contact1 128 = .ok (.iload 5, 2) := by decide +kernel
theorem dX11_contact1_130 : decode cX11_contact1 130 = .ok (.ifCond .eq 13, 3) := by decide +kernel
theorem dX11_contact1_133 : decode cX11_contact1 133 = .ok (.aload_n 0, 1) := by decide +kernel
theorem dX11_contact1_134 : decode cX11_contact1 134 = .ok (.iload 6, 2) := by decide +kernel
theorem dX11_contact1_136 : decode cX11_contact1 136 = .ok (.iload 6, 2) := by decide +kernel
theorem dX11_contact1_138 : decode cX11_contact1 138 = .ok (.iconst 1, 1) := by decide +kernel
theorem dX11_contact1_139 : decode cX11_contact1 139 = .ok (.iadd, 1) := by decide +kernel
theorem dX11_contact1_140 : decode cX11_contact1 140 = .ok (.invokevirtual 439, 3) := by decide +kernel
theorem dX11_contact1_143 : decode cX11_contact1 143 = .ok (.return_, 1) := by decide +kernel
theorem dX11_isOnlyLive_0 : decode cX11_isOnlyLive 0 = .ok (.aload_n 0, 1) := by decide +kernel
theorem dX11_isOnlyLive_1 : decode cX11_isOnlyLive 1 = .ok (.getfield 77, 3) := by decide +kernel
theorem dX11_isOnlyLive_4 : decode cX11_isOnlyLive 4 = .ok (.aload_n 0, 1) := by decide +kernel
theorem dX11_isOnlyLive_5 : decode cX11_isOnlyLive 5 = .ok (.iload_n 1, 1) := by decide +kernel
theorem dX11_isOnlyLive_6 : decode cX11_isOnlyLive 6 = .ok (.invokevirtual 425, 3) := by decide +kernel
theorem dX11_isOnlyLive_9 : decode cX11_isOnlyLive 9 = .ok (.baload, 1) := by decide +kernel
theorem dX11_isOnlyLive_10 : decode cX11_isOnlyLive 10 = .ok (.ifCond .eq 20, 3) := by decide +kernel
theorem dX11_isOnlyLive_13 : decode cX11_isOnlyLive 13 = .ok (.aload_n 0, 1) := by decide +kernel
theorem dX11_isOnlyLive_14 : decode cX11_isOnlyLive 14 = .ok (.getfield 80, 3) := by decide +kernel
theorem dX11_isOnlyLive_17 : decode cX11_isOnlyLive 17 = .ok (.aload_n 0, 1) := by decide +kernel
theorem dX11_isOnlyLive_18 : decode cX11_isOnlyLive 18 = .ok (.iload_n 1, 1) := by decide +kernel
theorem dX11_isOnlyLive_19 : decode cX11_isOnlyLive 19 = .ok (.invokevirtual 425, 3) := by decide +kernel
theorem dX11_isOnlyLive_22 : decode cX11_isOnlyLive 22 = .ok (.baload, 1) := by decide +kernel
theorem dX11_isOnlyLive_23 : decode cX11_isOnlyLive 23 = .ok (.ifCond .ne 7, 3) := by decide +kernel
theorem dX11_isOnlyLive_26 : decode cX11_isOnlyLive 26 = .ok (.iconst 1, 1) := by decide +kernel
theorem dX11_isOnlyLive_27 : decode cX11_isOnlyLive 27 = .ok (.goto 4, 3) := by decide +kernel
theorem dX11_isOnlyLive_30 : decode cX11_isOnlyLive 30 = .ok (.iconst 0, 1) := by decide +kernel
theorem dX11_isOnlyLive_31 : decode cX11_isOnlyLive 31 = .ok (.ireturn, 1) := by decide +kernel
theorem dX11_isOnlyGround_0 : decode cX11_isOnlyGround 0 = .ok (.aload_n 0, 1) := by decide +kernel
theorem dX11_isOnlyGround_1 : decode cX11_isOnlyGround 1 = .ok (.getfield 80, 3) := by decide +kernel
theorem dX11_isOnlyGround_4 : decode cX11_isOnlyGround 4 = .ok (.aload_n 0, 1) := by decide +kernel
theorem dX11_isOnlyGround_5 : decode cX11_isOnlyGround 5 = .ok (.iload_n 1, 1) := by decide +kernel
theorem dX11_isOnlyGround_6 : decode cX11_isOnlyGround 6 = .ok (.invokevirtual 425, 3) := by decide +kernel
theorem dX11_isOnlyGround_9 : decode cX11_isOnlyGround 9 = .ok (.baload, 1) := by decide +kernel
theorem dX11_isOnlyGround_10 : decode cX11_isOnlyGround 10 = .ok (.ifCond .eq 20, 3) := by decide +kernel
theorem dX11_isOnlyGround_13 : decode cX11_isOnlyGround 13 = .ok (.aload_n 0, 1) := by decide +kernel
theorem dX11_isOnlyGround_14 : decode cX11_isOnlyGround 14 = .ok (.getfield 77, 3) := by decide +kernel
theorem dX11_isOnlyGround_17 : decode cX11_isOnlyGround 17 = .ok (.aload_n 0, 1) := by decide +kernel
theorem dX11_isOnlyGround_18 : decode cX11_isOnlyGround 18 = .ok (.iload_n 1, 1) := by decide +kernel
theorem dX11_isOnlyGround_19 : decode cX11_isOnlyGround 19 = .ok (.invokevirtual 425, 3) := by decide +kernel
theorem dX11_isOnlyGround_22 : decode cX11_isOnlyGround 22 = .ok (.baload, 1) := by decide +kernel
theorem dX11_isOnlyGround_23 : decode cX11_isOnlyGround 23 = .ok (.ifCond .ne 7, 3) := by decide +kernel
theorem dX11_isOnlyGround_26 : decode cX11_isOnlyGround 26 = .ok (.iconst 1, 1) := by decide +kernel
theorem dX11_isOnlyGround_27 : decode cX11_isOnlyGround 27 = .ok (.goto 4, 3) := by decide +kernel
theorem dX11_isOnlyGround_30 : decode cX11_isOnlyGround 30 = .ok (.iconst 0, 1) := by decide +kernel
theorem dX11_isOnlyGround_31 : decode cX11_isOnlyGround 31 = .ok (.ireturn, 1) := by decide +kernel
theorem dX11_isOn_0 : decode cX11_isOn 0 = .ok (.aload_n 0, 1) := by decide +kernel
theorem dX11_isOn_1 : decode cX11_isOn 1 = .ok (.iload_n 1, 1) := by decide +kernel
theorem dX11_isOn_2 : decode cX11_isOn 2 = .ok (.invokevirtual 442, 3) := by decide +kernel
theorem dX11_isOn_5 : decode cX11_isOn 5 = .ok (.ifCond .eq 11, 3) := by decide +kernel
theorem dX11_isOn_8 : decode cX11_isOn 8 = .ok (.aload_n 0, 1) := by decide +kernel
theorem dX11_isOn_9 : decode cX11_isOn 9 = .ok (.iload_n 2, 1) := by decide +kernel
theorem dX11_isOn_10 : decode cX11_isOn 10 = .ok (.invokevirtual 445, 3) := by decide +kernel
theorem dX11_isOn_13 : decode cX11_isOn 13 = .ok (.ifCond .ne 19, 3) := by decide +kernel
theorem dX11_isOn_16 : decode cX11_isOn 16 = .ok (.aload_n 0, 1) := by decide +kernel
theorem dX11_isOn_17 : decode cX11_isOn 17 = .ok (.iload_n 1, 1) := by decide +kernel
theorem dX11_isOn_18 : decode cX11_isOn 18 = .ok (.invokevirtual 445, 3) := by decide +kernel
theorem dX11_isOn_21 : decode cX11_isOn 21 = .ok (.ifCond .eq 15, 3) := by decide +kernel
theorem dX11_isOn_24 : decode cX11_isOn 24 = .ok (.aload_n 0, 1) := by decide +kernel
theorem dX11_isOn_25 : decode cX11_isOn 25 = .ok (.iload_n 2, 1) := by decide +kernel
theorem dX11_isOn_26 : decode cX11_isOn 26 = .ok (.invokevirtual 442, 3) := by decide +kernel
theorem dX11_isOn_29 : decode cX11_isOn 29 = .ok (.ifCond .eq 7, 3) := by decide +kernel
theorem dX11_isOn_32 : decode cX11_isOn 32 = .ok (.iconst 1, 1) := by decide +kernel
theorem dX11_isOn_33 : decode cX11_isOn 33 = .ok (.goto 4, 3) := by decide +kernel
theorem dX11_isOn_36 : decode cX11_isOn 36 = .ok (.iconst 0, 1) := by decide +kernel
theorem dX11_isOn_37 : decode cX11_isOn 37 = .ok (.ireturn, 1) := by decide +kernel
theorem dX11_ticks_0 : decode cX11_ticks 0 = .ok (.aload_n 0, 1) := by decide +kernel
theorem dX11_ticks_1 : decode cX11_ticks 1 = .ok (.getfield 65, 3) := by decide +kernel
theorem dX11_ticks_4 : decode cX11_ticks 4 = .ok (.sipush 344, 3) := by decide +kernel
theorem dX11_ticks_7 : decode cX11_ticks 7 = .ok (.dup2, 1) := by decide +kernel
theorem dX11_ticks_8 : decode cX11_ticks 8 = .ok (.iaload, 1) := by decide +kernel
theorem dX11_ticks_9 : decode cX11_ticks 9 = .ok (.iconst 1, 1) := by decide +kernel
theorem dX11_ticks_10 : decode cX11_ticks 10 = .ok (.iadd, 1) := by decide +kernel
theorem dX11_ticks_11 : decode cX11_ticks 11 = .ok (.iastore, 1) := by decide +kernel
theorem dX11_ticks_12 : decode cX11_ticks 12 = .ok (.aload_n 0, 1) := by decide +kernel
theorem dX11_ticks_13 : decode cX11_ticks 13 = .ok (.invokevirtual 448, 3) := by decide +kernel
theorem dX11_ticks_16 : decode cX11_ticks 16 = .ok (.iconst 0, 1) := by decide +kernel
theorem dX11_ticks_17 : decode cX11_ticks 17 = .ok (.istore_n 1, 1) := by decide +kernel
theorem dX11_ticks_18 : decode cX11_ticks 18 = .ok (.iload_n 1, 1) := by decide +kernel
theorem dX11_ticks_19 : decode cX11_ticks 19 = .ok (.aload_n 0, 1) := by decide +kernel
theorem dX11_ticks_20 : decode cX11_ticks 20 = .ok (.iconst 0, 1) := by decide +kernel
theorem dX11_ticks_21 : decode cX11_ticks 21 = .ok (.invokevirtual 428, 3) := by decide +kernel
theorem dX11_ticks_24 : decode cX11_ticks 24 = .ok (.if_icmp .ge 14, 3) := by decide +kernel
theorem dX11_ticks_27 : decode cX11_ticks 27 = .ok (.aload_n 0, 1) := by decide +kernel
theorem dX11_ticks_28 : decode cX11_ticks 28 = .ok (.iload_n 1, 1) := by decide +kernel
theorem dX11_ticks_29 : decode cX11_ticks 29 = .ok (.invokevirtual 451, 3) := by decide +kernel
theorem dX11_ticks_32 : decode cX11_ticks 32 = .ok (.iinc 1 1, 3) := by decide +kernel
theorem dX11_ticks_35 : decode cX11_ticks 35 = .ok (.goto (-17), 3) := by decide +kernel
theorem dX11_ticks_38 : decode cX11_ticks 38 = .ok (.iconst 0, 1) := by decide +kernel
theorem dX11_ticks_39 : decode cX11_ticks 39 = .ok (.istore_n 1, 1) := by decide +kernel
theorem dX11_ticks_40 : decode cX11_ticks 40 = .ok (.iload_n 1, 1) := by decide +kernel
theorem dX11_ticks_41 : decode cX11_ticks 41 = .ok (.aload_n 0, 1) := by decide +kernel
theorem dX11_ticks_42 : decode cX11_ticks 42 = .ok (.iconst 0, 1) := by decide +kernel
theorem dX11_ticks_43 : decode cX11_ticks 43 = .ok (.invokevirtual 428, 3) := by decide +kernel
theorem dX11_ticks_46 : decode cX11_ticks 46 = .ok (.if_icmp .ge 90, 3) := by decide +kernel
theorem dX11_ticks_49 : decode cX11_ticks 49 = .ok (.iconst 0, 1) := by decide +kernel
theorem dX11_ticks_50 : decode cX11_ticks 50 = .ok (.istore_n 2, 1) := by decide +kernel
theorem dX11_ticks_51 : decode cX11_ticks 51 = .ok (.iload_n 2, 1) := by decide +kernel
theorem dX11_ticks_52 : decode cX11_ticks 52 = .ok (.aload_n 0, 1) := by decide +kernel
theorem dX11_ticks_53 : decode cX11_ticks 53 = .ok (.getfield 46, 3) := by decide +kernel
theorem dX11_ticks_56 : decode cX11_ticks 56 = .ok (.bipush 116, 2) := by decide +kernel
theorem dX11_ticks_58 : decode cX11_ticks 58 = .ok (.aload_n 0, 1) := by decide +kernel
theorem dX11_ticks_59 : decode cX11_ticks 59 = .ok (.getfield 269, 3) := by decide +kernel
theorem dX11_ticks_62 : decode cX11_ticks 62 = .ok (.imul, 1) := by decide +kernel
theorem dX11_ticks_63 : decode cX11_ticks 63 = .ok (.iload_n 1, 1) := by decide +kernel
theorem dX11_ticks_64 : decode cX11_ticks 64 = .ok (.iadd, 1) := by decide +kernel
theorem dX11_ticks_65 : decode cX11_ticks 65 = .ok (.iaload, 1) := by decide +kernel
theorem dX11_ticks_66 : decode cX11_ticks 66 = .ok (.if_icmp .ge 64, 3) := by decide +kernel
theorem dX11_ticks_69 : decode cX11_ticks 69 = .ok (.bipush 80, 2) := by decide +kernel
theorem dX11_ticks_71 : decode cX11_ticks 71 = .ok (.bipush 6, 2) := by decide +kernel
theorem dX11_ticks_73 : decode cX11_ticks 73 = .ok (.iload_n 1, 1) := by decide +kernel
theorem dX11_ticks_74 : decode cX11_ticks 74 = .ok (.imul, 1) := by decide +kernel
theorem dX11_ticks_75 : decode cX11_ticks 75 = .ok (.iadd, 1) := by decide +kernel
theorem dX11_ticks_76 : decode cX11_ticks 76 = .ok (.iload_n 2, 1) := by decide +kernel
theorem dX11_ticks_77 : decode cX11_ticks 77 = .ok (.iadd, 1) := by decide +kernel
theorem dX11_ticks_78 : decode cX11_ticks 78 = .ok (.istore_n 3, 1) := by decide +kernel
theorem dX11_ticks_79 : decode cX11_ticks 79 = .ok (.aload_n 0, 1) := by decide +kernel
theorem dX11_ticks_80 : decode cX11_ticks 80 = .ok (.getfield 65, 3) := by decide +kernel
theorem dX11_ticks_83 : decode cX11_ticks 83 = .ok (.iload_n 3, 1) := by decide +kernel
theorem dX11_ticks_84 : decode cX11_ticks 84 = .ok (.aload_n 0, 1) := by decide +kernel
theorem dX11_ticks_85 : decode cX11_ticks 85 = .ok (.getfield 65, 3) := by decide +kernel
theorem dX11_ticks_88 : decode cX11_ticks 88 = .ok (.iconst 0, 1) := by decide +kernel
theorem dX11_ticks_89 : decode cX11_ticks 89 = .ok (.iload_n 1, 1) := by decide +kernel
theorem dX11_ticks_90 : decode cX11_ticks 90 = .ok (.iadd, 1) := by decide +kernel
theorem dX11_ticks_91 : decode cX11_ticks 91 = .ok (.iaload, 1) := by decide +kernel
theorem dX11_ticks_92 : decode cX11_ticks 92 = .ok (.iconst 1, 1) := by decide +kernel
theorem dX11_ticks_93 : decode cX11_ticks 93 = .ok (.if_icmp .ne 18, 3) := by decide +kernel
theorem dX11_ticks_96 : decode cX11_ticks 96 = .ok (.iconst 2, 1) := by decide +kernel
theorem dX11_ticks_97 : decode cX11_ticks 97 = .ok (.aload_n 0, 1) := by decide +kernel
theorem dX11_ticks_98 : decode cX11_ticks 98 = .ok (.getfield 65, 3) := by decide +kernel
theorem dX11_ticks_101 : decode cX11_ticks 101 = .ok (.iload_n 3, 1) := by decide +kernel
theorem dX11_ticks_102 : decode cX11_ticks 102 = .ok (.iaload, 1) := by decide +kernel
theorem dX11_ticks_103 : decode cX11_ticks 103 = .ok (.iconst 1, 1) := by decide +kernel
theorem dX11_ticks_104 : decode cX11_ticks 104 = .ok (.iadd, 1) := by decide +kernel
theorem dX11_ticks_105 : decode cX11_ticks 105 = .ok (.invokestatic 266, 3) := by decide +kernel
theorem dX11_ticks_108 : decode cX11_ticks 108 = .ok (.goto 15, 3) := by decide +kernel
theorem dX11_ticks_111 : decode cX11_ticks 111 = .ok (.iconst 0, 1) := by decide +kernel
theorem dX11_ticks_112 : decode cX11_ticks 112 = .ok (.aload_n 0, 1) := by decide +kernel
theorem dX11_ticks_113 : decode cX11_ticks 113 = .ok (.getfield 65, 3) := by decide +kernel
theorem dX11_ticks_116 : decode cX11_ticks 116 = .ok (.iload_n 3, 1) := by decide +kernel
theorem dX11_ticks_117 : decode cX11_ticks 117 = .ok (.iaload, 1) := by decide +kernel
theorem dX11_ticks_118 : decode cX11_ticks 118 = .ok (.iconst 1, 1) := by decide +kernel
theorem dX11_ticks_119 : decode cX11_ticks 119 = .ok (.isub, 1) := by decide +kernel
theorem dX11_ticks_120 : decode cX11_ticks 120 = .ok (.invokestatic 261, 3) := by decide +kernel
theorem dX11_ticks_123 : decode cX11_ticks 123 = .ok (.iastore, 1) := by decide +kernel
theorem dX11_ticks_124 : decode cX11_ticks 124 = .ok (.iinc 2 1, 3) := by decide +kernel
theorem dX11_ticks_127 : decode cX11_ticks 127 = .ok (.goto (-76), 3) := by decide +kernel
theorem dX11_ticks_130 : decode cX11_ticks 130 = .ok (.iinc 1 1, 3) := by decide +kernel
theorem dX11_ticks_133 : decode cX11_ticks 133 = .ok (.goto (-93), 3) := by decide +kernel
theorem dX11_ticks_136 : decode cX11_ticks 136 = .ok (.return_, 1) := by decide +kernel
theorem dX11_coil_0 : decode cX11_coil 0 = .ok (.aload_n 0, 1) := by decide +kernel
theorem dX11_coil_1 : decode cX11_coil 1 = .ok (.getfield 83, 3) := by decide +kernel
theorem dX11_coil_4 : decode cX11_coil 4 = .ok (.iload_n 1, 1) := by decide +kernel
theorem dX11_coil_5 : decode cX11_coil 5 = .ok (.iaload, 1) := by decide +kernel
theorem dX11_coil_6 : decode cX11_coil 6 = .ok (.iconst 1, 1) := by decide +kernel
theorem dX11_coil_7 : decode cX11_coil 7 = .ok (.if_icmp .ne 4, 3) := by decide +kernel
theorem dX11_coil_10 : decode cX11_coil 10 = .ok (.return_, 1) := by decide +kernel
theorem dX11_coil_11 : decode cX11_coil 11 = .ok (.aload_n 0, 1) := by decide +kernel
theorem dX11_coil_12 : decode cX11_coil 12 = .ok (.getfield 65, 3) := by decide +kernel
theorem dX11_coil_15 : decode cX11_coil 15 = .ok (.iconst 0, 1) := by decide +kernel
theorem dX11_coil_16 : decode cX11_coil 16 = .ok (.iload_n 1, 1) := by decide +kernel
theorem dX11_coil_17 : decode cX11_coil 17 = .ok (.iadd, 1) := by decide +kernel
theorem dX11_coil_18 : decode cX11_coil 18 = .ok (.iaload, 1) := by decide +kernel
theorem dX11_coil_19 : decode cX11_coil 19 = .ok (.iconst 1, 1) := by decide +kernel
theorem dX11_coil_20 : decode cX11_coil 20 = .ok (.if_icmp .ne 7, 3) := by decide +kernel
theorem dX11_coil_23 : decode cX11_coil 23 = .ok (.iconst 1, 1) := by decide +kernel
theorem dX11_coil_24 : decode cX11_coil 24 = .ok (.goto 4, 3) := by decide +kernel
theorem dX11_coil_27 : decode cX11_coil 27 = .ok (.iconst 0, 1) := by decide +kernel
theorem dX11_coil_28 : decode cX11_coil 28 = .ok (.istore_n 2, 1) := by decide +kernel
theorem dX11_coil_29 : decode cX11_coil 29 = .ok (.aload_n 0, 1) := by decide +kernel
theorem dX11_coil_30 : decode cX11_coil 30 = .ok (.iconst 2, 1) := by decide +kernel
theorem dX11_coil_31 : decode cX11_coil 31 = .ok (.bipush 20, 2) := by decide +kernel
theorem dX11_coil_33 : decode cX11_coil 33 = .ok (.iload_n 1, 1) := by decide +kernel
theorem dX11_coil_34 : decode cX11_coil 34 = .ok (.imul, 1) := by decide +kernel
theorem dX11_coil_35 : decode cX11_coil 35 = .ok (.iadd, 1) := by decide +kernel
theorem dX11_coil_36 : decode cX11_coil 36 = .ok (.iconst 3, 1) := by decide +kernel
theorem dX11_coil_37 : decode cX11_coil 37 = .ok (.bipush 20, 2) := by decide +kernel
theorem dX11_coil_39 : decode cX11_coil 39 = .ok (.iload_n 1, 1) := by decide +kernel
theorem dX11_coil_40 : decode cX11_coil 40 = .ok (.imul, 1) := by decide +kernel
theorem dX11_coil_41 : decode cX11_coil 41 = .ok (.iadd, 1) := by decide +kernel
theorem dX11_coil_42 : decode cX11_coil 42 = .ok (.invokevirtual 454, 3) := by decide +kernel
theorem dX11_coil_45 : decode cX11_coil 45 = .ok (.istore_n 3, 1) := by decide +kernel
theorem dX11_coil_46 : decode cX11_coil 46 = .ok (.iload_n 3, 1) := by decide +kernel
theorem dX11_coil_47 : decode cX11_coil 47 = .ok (.iload_n 2, 1) := by decide +kernel
theorem dX11_coil_48 : decode cX11_coil 48 = .ok (.if_icmp .eq 17, 3) := by decide +kernel
theorem dX11_coil_51 : decode cX11_coil 51 = .ok (.aload_n 0, 1) := by decide +kernel
theorem dX11_coil_52 : decode cX11_coil 52 = .ok (.getfield 65, 3) := by decide +kernel
theorem dX11_coil_55 : decode cX11_coil 55 = .ok (.bipush 40, 2) := by decide +kernel
theorem dX11_coil_57 : decode cX11_coil 57 = .ok (.iload_n 1, 1) := by decide +kernel
theorem dX11_coil_58 : decode cX11_coil 58 = .ok (.iadd, 1) := by decide +kernel
theorem dX11_coil_59 : decode cX11_coil 59 = .ok (.iaload, 1) := by decide +kernel
theorem dX11_coil_60 : decode cX11_coil 60 = .ok (.iconst 1, 1) := by decide +kernel
theorem dX11_coil_61 : decode cX11_coil 61 = .ok (.iadd, 1) := by decide +kernel
theorem dX11_coil_62 : decode cX11_coil 62 = .ok (.goto 4, 3) := by decide +kernel
theorem dX11_coil_65 : decode cX11_coil 65 = .ok (.iconst 0, 1) := by decide +kernel
theorem dX11_coil_66 : decode cX11_coil 66 = .ok (.istore 4, 2) := by decide +kernel
theorem dX11_coil_68 : decode cX11_coil 68 = .ok (.aload_n 0, 1) := by decide +kernel
theorem dX11_coil_69 : decode cX11_coil 69 = .ok (.getfield 83, 3) := by decide +kernel
theorem dX11_coil_72 : decode cX11_coil 72 = .ok (.iload_n 1, 1) := by decide +kernel
theorem dX11_coil_73 : decode cX11_coil 73 = .ok (.iaload, 1) := by decide +kernel
theorem dX11_coil_74 : decode cX11_coil 74 = .ok (.iconst 2, 1) := by decide +kernel
theorem dX11_coil_75 : decode cX11_coil 75 = .ok (.if_icmp .eq 43, 3) := by decide +kernel
theorem dX11_coil_78 : decode cX11_coil 78 = .ok (.iload 4, 2) := by decide +kernel
theorem dX11_coil_80 : decode cX11_coil 80 = .ok (.iload_n 2, 1) := by decide +kernel
theorem dX11_coil_81 : decode cX11_coil 81 = .ok (.ifCond .eq 20, 3) := by decide +kernel
theorem dX11_coil_84 : decode cX11_coil 84 = .ok (.aload_n 0, 1) := by decide +kernel
theorem dX11_coil_85 : decode cX11_coil 85 = .ok (.getfield 43, 3) := by decide +kernel
theorem dX11_coil_88 : decode cX11_coil 88 = .ok (.bipush 116, 2) := by decide +kernel
theorem dX11_coil_90 : decode cX11_coil 90 = .ok (.aload_n 0, 1) := by decide +kernel
theorem dX11_coil_91 : decode cX11_coil 91 = .ok (.getfield 269, 3) := by decide +kernel
theorem dX11_coil_94 : decode cX11_coil 94 = .ok (.imul, 1) := by decide +kernel
theorem dX11_coil_95 : decode cX11_coil 95 = .ok (.iload_n 1, 1) := by decide +kernel
theorem dX11_coil_96 : decode cX11_coil 96 = .ok (.iadd, 1) := by decide +kernel
theorem dX11_coil_97 : decode cX11_coil 97 = .ok (.iaload, 1) := by decide +kernel
theorem dX11_coil_98 : decode cX11_coil 98 = .ok (.goto 17, 3) := by decide +kernel
theorem dX11_coil_101 : decode cX11_coil 101 = .ok (.aload_n 0, 1) := by decide +kernel
theorem dX11_coil_102 : decode cX11_coil 102 = .ok (.getfield 40, 3) := by decide +kernel
theorem dX11_coil_105 : decode cX11_coil 105 = .ok (.bipush 116, 2) := by decide +kernel
theorem dX11_coil_107 : decode cX11_coil 107 = .ok (.aload_n 0, 1) := by decide +kernel
theorem dX11_coil_108 : decode cX11_coil 108 = .ok (.getfield 269, 3) := by decide +kernel
theorem dX11_coil_111 : decode cX11_coil 111 = .ok (.imul, 1) := by decide +kernel
theorem dX11_coil_112 : decode cX11_coil 112 = .ok (.iload_n 1, 1) := by decide +kernel
theorem dX11_coil_113 : decode cX11_coil 113 = .ok (.iadd, 1) := by decide +kernel
theorem dX11_coil_114 : decode cX11_coil 114 = .ok (.iaload, 1) := by decide +kernel
theorem dX11_coil_115 : decode cX11_coil 115 = .ok (.if_icmp .ne 7, 3) := by decide +kernel
theorem dX11_coil_118 : decode cX11_coil 118 = .ok (.iconst 1, 1) := by decide +kernel
theorem dX11_coil_119 : decode cX11_coil 119 = .ok (.goto 4, 3) := by decide +kernel
theorem dX11_coil_122 : decode cX11_coil 122 = .ok (.iconst 0, 1) := by decide +kernel
theorem dX11_coil_123 : decode cX11_coil 123 = .ok (.istore 5, 2) := by decide +kernel
theorem dX11_coil_125 : decode cX11_coil 125 = .ok (.aload_n 0, 1) := by decide +kernel
theorem dX11_coil_126 : decode cX11_coil 126 = .ok (.getfield 65, 3) := by decide +kernel
theorem dX11_coil_129 : decode cX11_coil 129 = .ok (.bipush 40, 2) := by decide +kernel
theorem dX11_coil_131 : decode cX11_coil 131 = .ok (.iload_n 1, 1) := by decide +kernel
theorem dX11_coil_132 : decode cX11_coil 132 = .ok (.iadd, 1) := by decide +kernel
theorem dX11_coil_133 : decode cX11_coil 133 = .ok (.iload 5, 2) := by decide +kernel
theorem dX11_coil_135 : decode cX11_coil 135 = .ok (.ifCond .eq 7, 3) := by decide +kernel
theorem dX11_coil_138 : decode cX11_coil 138 = .ok (.iconst 0, 1) := by decide +kernel
theorem dX11_coil_139 : decode cX11_coil 139 = .ok (.goto 5, 3) := by decide +kernel
theorem dX11_coil_142 : decode cX11_coil 142 = .ok (.iload 4, 2) := by decide +kernel
theorem dX11_coil_144 : decode cX11_coil 144 = .ok (.iastore, 1) := by decide +kernel
theorem dX11_coil_145 : decode cX11_coil 145 = .ok (.iload 5, 2) := by decide +kernel
theorem dX11_coil_147 : decode cX11_coil 147 = .ok (.ifCond .eq 20, 3) := by decide +kernel
theorem dX11_coil_150 : decode cX11_coil 150 = .ok (.aload_n 0, 1) := by decide +kernel
theorem dX11_coil_151 : decode cX11_coil 151 = .ok (.getfield 65, 3) := by decide +kernel
theorem dX11_coil_154 : decode cX11_coil 154 = .ok (.iconst 0, 1) := by decide +kernel
theorem dX11_coil_155 : decode cX11_coil 155 = .ok (.iload_n 1, 1) := by decide +kernel
theorem dX11_coil_156 : decode cX11_coil 156 = .ok (.iadd, 1) := by decide +kernel
theorem dX11_coil_157 : decode cX11_coil 157 = .ok (.iload_n 2, 1) := by decide +kernel
theorem dX11_coil_158 : decode cX11_coil 158 = .ok (.ifCond .eq 7, 3) := by decide +kernel
theorem dX11_coil_161 : decode cX11_coil 161 = .ok (.iconst 0, 1) := by decide +kernel
theorem dX11_coil_162 : decode cX11_coil 162 = .ok (.goto 4, 3) := by decide +kernel
theorem dX11_coil_165 : decode cX11_coil 165 = .ok (.iconst 1, 1) := by decide +kernel
theorem dX11_coil_166 : decode cX11_coil 166 = .ok (.iastore, 1) := by decide +kernel
theorem dX11_coil_167 : decode cX11_coil 167 = .ok (.return_, 1) := by decide +kernel
theorem dX11_keep_0 : decode cX11_keep 0 = .ok (.aload_n 0, 1) := by decide +kernel
theorem dX11_keep_1 : decode cX11_keep 1 = .ok (.aload_n 0, 1) := by decide +kernel
theorem dX11_keep_2 : decode cX11_keep 2 = .ok (.getfield 457, 3) := by decide +kernel
theorem dX11_keep_5 : decode cX11_keep 5 = .ok (.iconst 1, 1) := by decide +kernel
theorem dX11_keep_6 : decode cX11_keep 6 = .ok (.iadd, 1) := by decide +kernel
theorem dX11_keep_7 : decode cX11_keep 7 = .ok (.bipush 100, 2) := by decide +kernel
theorem dX11_keep_9 : decode cX11_keep 9 = .ok (.irem, 1) := by decide +kernel
theorem dX11_keep_10 : decode cX11_keep 10 = .ok (.putfield 457, 3) := by decide +kernel
theorem dX11_keep_13 : decode cX11_keep 13 = .ok (.iconst 0, 1) := by decide +kernel
theorem dX11_keep_14 : decode cX11_keep 14 = .ok (.istore_n 1, 1) := by decide +kernel
theorem dX11_keep_15 : decode cX11_keep 15 = .ok (.iload_n 1, 1) := by decide +kernel
theorem dX11_keep_16 : decode cX11_keep 16 = .ok (.sipush 345, 3) := by decide +kernel
theorem dX11_keep_19 : decode cX11_keep 19 = .ok (.if_icmp .ge 30, 3) := by decide +kernel
theorem dX11_keep_22 : decode cX11_keep 22 = .ok (.aload_n 0, 1) := by decide +kernel
theorem dX11_keep_23 : decode cX11_keep 23 = .ok (.getfield 87, 3) := by decide +kernel
theorem dX11_keep_26 : decode cX11_keep 26 = .ok (.sipush 345, 3) := by decide +kernel
theorem dX11_keep_29 : decode cX11_keep 29 = .ok (.aload_n 0, 1) := by decide +kernel
theorem dX11_keep_30 : decode cX11_keep 30 = .ok (.getfield 457, 3) := by decide +kernel
theorem dX11_keep_33 : decode cX11_keep 33 = .ok (.imul, 1) := by decide +kernel
theorem dX11_keep_34 : decode cX11_keep 34 = .ok (.iload_n 1, 1) := by decide +kernel
theorem dX11_keep_35 : decode cX11_keep 35 = .ok (.iadd, 1) := by decide +kernel
theorem dX11_keep_36 : decode cX11_keep 36 = .ok (.aload_n 0, 1) := by decide +kernel
theorem dX11_keep_37 : decode cX11_keep 37 = .ok (.getfield 65, 3) := by decide +kernel
theorem dX11_keep_40 : decode cX11_keep 40 = .ok (.iload_n 1, 1) := by decide +kernel
theorem dX11_keep_41 : decode cX11_keep 41 = .ok (.iaload, 1) := by decide +kernel
theorem dX11_keep_42 : decode cX11_keep 42 = .ok (.iastore, 1) := by decide +kernel
theorem dX11_keep_43 : decode cX11_keep 43 = .ok (.iinc 1 1, 3) := by decide +kernel
theorem dX11_keep_46 : decode cX11_keep 46 = .ok (.goto (-31), 3) := by decide +kernel
theorem dX11_keep_49 : decode cX11_keep 49 = .ok (.aload_n 0, 1) := by decide +kernel
theorem dX11_keep_50 : decode cX11_keep 50 = .ok (.bipush 100, 2) := by decide +kernel
theorem dX11_keep_52 : decode cX11_keep 52 = .ok (.aload_n 0, 1) := by decide +kernel
theorem dX11_keep_53 : decode cX11_keep 53 = .ok (.getfield 281, 3) := by decide +kernel
theorem dX11_keep_56 : decode cX11_keep 56 = .ok (.iconst 1, 1) := by decide +kernel
theorem dX11_keep_57 : decode cX11_keep 57 = .ok (.iadd, 1) := by decide +kernel
theorem dX11_keep_58 : decode cX11_keep 58 = .ok (.invokestatic 266, 3) := by decide +kernel
theorem dX11_keep_61 : decode cX11_keep 61 = .ok (.putfield 281, 3) := by decide +kernel
theorem dX11_keep_64 : decode cX11_keep 64 = .ok (.return_, 1) := by decide +kernel
theorem dX11_tick_0 : decode cX11_tick 0 = .ok (.iload_n 1, 1) := by decide +kernel
theorem dX11_tick_1 : decode cX11_tick 1 = .ok (.ifCond .lt 10, 3) := by decide +kernel
theorem dX11_tick_4 : decode cX11_tick 4 = .ok (.iload_n 1, 1) := by decide +kernel
theorem dX11_tick_5 : decode cX11_tick 5 = .ok (.sipush 500, 3) := by decide +kernel
theorem dX11_tick_8 : decode cX11_tick 8 = .ok (.if_icmp .le 5, 3) := by decide +kernel
theorem dX11_tick_11 : decode cX11_tick 11 = .ok (.iconst (-1), 1) := by decide +kernel
theorem dX11_tick_12 : decode cX11_tick 12 = .ok (.ireturn, 1) := by decide +kernel
theorem dX11_tick_13 : decode cX11_tick 13 = .ok (.iconst 0, 1) := by decide +kernel
theorem dX11_tick_14 : decode cX11_tick 14 = .ok (.istore_n 2, 1) := by decide +kernel
theorem dX11_tick_15 : decode cX11_tick 15 = .ok (.iload_n 2, 1) := by decide +kernel
theorem dX11_tick_16 : decode cX11_tick 16 = .ok (.iload_n 1, 1) := by decide +kernel
theorem dX11_tick_17 : decode cX11_tick 17 = .ok (.if_icmp .ge 17, 3) := by decide +kernel
theorem dX11_tick_20 : decode cX11_tick 20 = .ok (.aload_n 0, 1) := by decide +kernel
theorem dX11_tick_21 : decode cX11_tick 21 = .ok (.invokevirtual 460, 3) := by decide +kernel
theorem dX11_tick_24 : decode cX11_tick 24 = .ok (.aload_n 0, 1) := by decide +kernel
theorem dX11_tick_25 : decode cX11_tick 25 = .ok (.invokevirtual 463, 3) := by decide +kernel
theorem dX11_tick_28 : decode cX11_tick 28 = .ok (.iinc 2 1, 3) := by decide +kernel
theorem dX11_tick_31 : decode cX11_tick 31 = .ok (.goto (-16), 3) := by decide +kernel
theorem dX11_tick_34 : decode cX11_tick 34 = .ok (.aload_n 0, 1) := by decide +kernel
theorem dX11_tick_35 : decode cX11_tick 35 = .ok (.getfield 65, 3) := by decide +kernel
theorem dX11_tick_38 : decode cX11_tick 38 = .ok (.sipush 344, 3) := by decide +kernel
theorem dX11_tick_41 : decode cX11_tick 41 = .ok (.iaload, 1) := by decide +kernel
theorem dX11_tick_42 : decode cX11_tick 42 = .ok (.ireturn, 1) := by decide +kernel
theorem dX11_quiet_0 : decode cX11_quiet 0 = .ok (.iconst 0, 1) := by decide +kernel
theorem dX11_quiet_1 : decode cX11_quiet 1 = .ok (.istore_n 1, 1) := by decide +kernel
theorem dX11_quiet_2 : decode cX11_quiet 2 = .ok (.iload_n 1, 1) := by decide +kernel
theorem dX11_quiet_3 : decode cX11_quiet 3 = .ok (.sipush 2000, 3) := by decide +kernel
theorem dX11_quiet_6 : decode cX11_quiet 6 = .ok (.if_icmp .ge 74, 3) := by decide +kernel
theorem dX11_quiet_9 : decode cX11_quiet 9 = .ok (.aload_n 0, 1) := by decide +kernel
theorem dX11_quiet_10 : decode cX11_quiet 10 = .ok (.invokevirtual 460, 3) := by decide +kernel
theorem dX11_quiet_13 : decode cX11_quiet 13 = .ok (.aload_n 0, 1) := by decide +kernel
theorem dX11_quiet_14 : decode cX11_quiet 14 = .ok (.invokevirtual 463, 3) := by decide +kernel
theorem dX11_quiet_17 : decode cX11_quiet 17 = .ok (.iconst 1, 1) := by decide +kernel
theorem dX11_quiet_18 : decode cX11_quiet 18 = .ok (.istore_n 2, 1) := by decide +kernel
theorem dX11_quiet_19 : decode cX11_quiet 19 = .ok (.iconst 0, 1) := by decide +kernel
theorem dX11_quiet_20 : decode cX11_quiet 20 = .ok (.istore_n 3, 1) := by decide +kernel
theorem dX11_quiet_21 : decode cX11_quiet 21 = .ok (.iload_n 3, 1) := by decide +kernel
theorem dX11_quiet_22 : decode cX11_quiet 22 = .ok (.sipush 320, 3) := by decide +kernel
theorem dX11_quiet_25 : decode cX11_quiet 25 = .ok (.if_icmp .ge 43, 3) := by decide +kernel
theorem dX11_quiet_28 : decode cX11_quiet 28 = .ok (.iload_n 2, 1) := by decide +kernel
theorem dX11_quiet_29 : decode cX11_quiet 29 = .ok (.ifCond .eq 39, 3) := by decide +kernel
theorem dX11_quiet_32 : decode cX11_quiet 32 = .ok (.aload_n 0, 1) := by decide +kernel
theorem dX11_quiet_33 : decode cX11_quiet 33 = .ok (.getfield 65, 3) := by decide +kernel
theorem dX11_quiet_36 : decode cX11_quiet 36 = .ok (.iload_n 3, 1) := by decide +kernel
theorem dX11_quiet_37 : decode cX11_quiet 37 = .ok (.iaload, 1) := by decide +kernel
theorem dX11_quiet_38 : decode cX11_quiet 38 = .ok (.aload_n 0, 1) := by decide +kernel
theorem dX11_quiet_39 : decode cX11_quiet 39 = .ok (.getfield 87, 3) := by decide +kernel
theorem dX11_quiet_42 : decode cX11_quiet 42 = .ok (.sipush 345, 3) := by decide +kernel
theorem dX11_quiet_45 : decode cX11_quiet 45 = .ok (.aload_n 0, 1) := by decide +kernel
theorem dX11_quiet_46 : decode cX11_quiet 46 = .ok (.getfield 457, 3) := by decide +kernel
theorem dX11_quiet_49 : decode cX11_quiet 49 = .ok (.imul, 1) := by decide +kernel
theorem dX11_quiet_50 : decode cX11_quiet 50 = .ok (.iload_n 3, 1) := by decide +kernel
theorem dX11_quiet_51 : decode cX11_quiet 51 = .ok (.iadd, 1) := by decide +kernel
theorem dX11_quiet_52 : decode cX11_quiet 52 = .ok (.iaload, 1) := by decide +kernel
theorem dX11_quiet_53 : decode cX11_quiet 53 = .ok (.if_icmp .ne 7, 3) := by decide +kernel
theorem dX11_quiet_56 : decode cX11_quiet 56 = .ok (.iconst 1, 1) := by decide +kernel
theorem dX11_quiet_57 : decode cX11_quiet 57 = .ok (.goto 4, 3) := by decide +kernel
theorem dX11_quiet_60 : decode cX11_quiet 60 = .ok (.iconst 0, 1) := by decide +kernel
theorem dX11_quiet_61 : decode cX11_quiet 61 = .ok (.istore_n 2, 1) := by decide +kernel
theorem dX11_quiet_62 : decode cX11_quiet 62 = .ok (.iinc 3 1, 3) := by decide +kernel
theorem dX11_quiet_65 : decode cX11_quiet 65 = .ok (.goto (-44), 3) := by decide +kernel
theorem dX11_quiet_68 : decode cX11_quiet 68 = .ok (.iload_n 2, 1) := by decide +kernel
theorem dX11_quiet_69 : decode cX11_quiet 69 = .ok (.ifCond .eq 5, 3) := by decide +kernel
theorem dX11_quiet_72 : decode cX11_quiet 72 = .ok (.iload_n 1, 1) := by decide +kernel
theorem dX11_quiet_73 : decode cX11_quiet 73 = .ok (.ireturn, 1) := by decide +kernel
theorem dX11_quiet_74 : decode cX11_quiet 74 = .ok (.iinc 1 1, 3) := by decide +kernel
theorem dX11_quiet_77 : decode cX11_quiet 77 = .ok (.goto (-75), 3) := by decide +kernel
theorem dX11_quiet_80 : decode cX11_quiet 80 = .ok (.iconst (-1), 1) := by decide +kernel
theorem dX11_quiet_81 : decode cX11_quiet 81 = .ok (.ireturn, 1) := by decide +kernel
theorem dX11_back_0 : decode cX11_back 0 = .ok (.iload_n 1, 1) := by decide +kernel
theorem dX11_back_1 : decode cX11_back 1 = .ok (.iconst 1, 1) := by decide +kernel
theorem dX11_back_2 : decode cX11_back 2 = .ok (.if_icmp .lt 17, 3) := by decide +kernel
theorem dX11_back_5 : decode cX11_back 5 = .ok (.iload_n 1, 1) := by decide +kernel
theorem dX11_back_6 : decode cX11_back 6 = .ok (.bipush 100, 2) := by decide +kernel
theorem dX11_back_8 : decode cX11_back 8 = .ok (.if_icmp .gt 11, 3) := by decide +kernel
theorem dX11_back_11 : decode cX11_back 11 = .ok (.iload_n 1, 1) := by decide +kernel
theorem dX11_back_12 : decode cX11_back 12 = .ok (.aload_n 0, 1) := by decide +kernel
theorem dX11_back_13 : decode cX11_back 13 = .ok (.getfield 281, 3) := by decide +kernel
theorem dX11_back_16 : decode cX11_back 16 = .ok (.if_icmp .le 5, 3) := by decide +kernel
theorem dX11_back_19 : decode cX11_back 19 = .ok (.iconst (-1), 1) := by decide +kernel
theorem dX11_back_20 : decode cX11_back 20 = .ok (.ireturn, 1) := by decide +kernel
theorem dX11_back_21 : decode cX11_back 21 = .ok (.aload_n 0, 1) := by decide +kernel
theorem dX11_back_22 : decode cX11_back 22 = .ok (.getfield 457, 3) := by decide +kernel
theorem dX11_back_25 : decode cX11_back 25 = .ok (.bipush 100, 2) := by decide +kernel
theorem dX11_back_27 : decode cX11_back 27 = .ok (.iadd, 1) := by decide +kernel
theorem dX11_back_28 : decode cX11_back 28 = .ok (.iload_n 1, 1) := by decide +kernel
theorem dX11_back_29 : decode cX11_back 29 = .ok (.isub, 1) := by decide +kernel
theorem dX11_back_30 : decode cX11_back 30 = .ok (.iconst 1, 1) := by decide +kernel
theorem dX11_back_31 : decode cX11_back 31 = .ok (.iadd, 1) := by decide +kernel
theorem dX11_back_32 : decode cX11_back 32 = .ok (.bipush 100, 2) := by decide +kernel
theorem dX11_back_34 : decode cX11_back 34 = .ok (.irem, 1) := by decide +kernel
theorem dX11_back_35 : decode cX11_back 35 = .ok (.istore_n 2, 1) := by decide +kernel
theorem dX11_back_36 : decode cX11_back 36 = .ok (.iconst 0, 1) := by decide +kernel
theorem dX11_back_37 : decode cX11_back 37 = .ok (.istore_n 3, 1) := by decide +kernel
theorem dX11_back_38 : decode cX11_back 38 = .ok (.iload_n 3, 1) := by decide +kernel
theorem dX11_back_39 : decode cX11_back 39 = .ok (.sipush 345, 3) := by decide +kernel
theorem dX11_back_42 : decode cX11_back 42 = .ok (.if_icmp .ge 27, 3) := by decide +kernel
theorem dX11_back_45 : decode cX11_back 45 = .ok (.aload_n 0, 1) := by decide +kernel
theorem dX11_back_46 : decode cX11_back 46 = .ok (.getfield 65, 3) := by decide +kernel
theorem dX11_back_49 : decode cX11_back 49 = .ok (.iload_n 3, 1) := by decide +kernel
theorem dX11_back_50 : decode cX11_back 50 = .ok (.aload_n 0, 1) := by decide +kernel
theorem dX11_back_51 : decode cX11_back 51 = .ok (.getfield 87, 3) := by decide +kernel
theorem dX11_back_54 : decode cX11_back 54 = .ok (.sipush 345, 3) := by decide +kernel
theorem dX11_back_57 : decode cX11_back 57 = .ok (.iload_n 2, 1) := by decide +kernel
theorem dX11_back_58 : decode cX11_back 58 = .ok (.imul, 1) := by decide +kernel
theorem dX11_back_59 : decode cX11_back 59 = .ok (.iload_n 3, 1) := by decide +kernel
theorem dX11_back_60 : decode cX11_back 60 = .ok (.iadd, 1) := by decide +kernel
theorem dX11_back_61 : decode cX11_back 61 = .ok (.iaload, 1) := by decide +kernel
theorem dX11_back_62 : decode cX11_back 62 = .ok (.iastore, 1) := by decide +kernel
theorem dX11_back_63 : decode cX11_back 63 = .ok (.iinc 3 1, 3) := by decide +kernel
theorem dX11_back_66 : decode cX11_back 66 = .ok (.goto (-28), 3) := by decide +kernel
theorem dX11_back_69 : decode cX11_back 69 = .ok (.aload_n 0, 1) := by decide +kernel
theorem dX11_back_70 : decode cX11_back 70 = .ok (.aload_n 0, 1) := by decide +kernel
theorem dX11_back_71 : decode cX11_back 71 = .ok (.getfield 457, 3) := by decide +kernel
theorem dX11_back_74 : decode cX11_back 74 = .ok (.bipush 100, 2) := by decide +kernel
theorem dX11_back_76 : decode cX11_back 76 = .ok (.iadd, 1) := by decide +kernel
theorem dX11_back_77 : decode cX11_back 77 = .ok (.iload_n 1, 1) := by decide +kernel
theorem dX11_back_78 : decode cX11_back 78 = .ok (.isub, 1) := by decide +kernel
theorem dX11_back_79 : decode cX11_back 79 = .ok (.bipush 100, 2) := by decide +kernel
theorem dX11_back_81 : decode cX11_back 81 = .ok (.irem, 1) := by decide +kernel
theorem dX11_back_82 : decode cX11_back 82 = .ok (.putfield 457, 3) := by decide +kernel
theorem dX11_back_85 : decode cX11_back 85 = .ok (.aload_n 0, 1) := by decide +kernel
theorem dX11_back_86 : decode cX11_back 86 = .ok (.dup, 1) := by decide +kernel
theorem dX11_back_87 : decode cX11_back 87 = .ok (.getfield 281, 3) := by decide +kernel
theorem dX11_back_90 : decode cX11_back 90 = .ok (.iload_n 1, 1) := by decide +kernel
theorem dX11_back_91 : decode cX11_back 91 = .ok (.isub, 1) := by decide +kernel
theorem dX11_back_92 : decode cX11_back 92 = .ok (.putfield 281, 3) := by decide +kernel
theorem dX11_back_95 : decode cX11_back 95 = .ok (.aload_n 0, 1) := by decide +kernel
theorem dX11_back_96 : decode cX11_back 96 = .ok (.getfield 65, 3) := by decide +kernel
theorem dX11_back_99 : decode cX11_back 99 = .ok (.sipush 344, 3) := by decide +kernel
theorem dX11_back_102 : decode cX11_back 102 = .ok (.iaload, 1) := by decide +kernel
theorem dX11_back_103 : decode cX11_back 103 = .ok (.ireturn, 1) := by decide +kernel
theorem dX11_count_0 : decode cX11_count 0 = .ok (.iload_n 1, 1) := by decide +kernel
theorem dX11_count_1 : decode cX11_count 1 = .ok (.tableswitch 144 0 8 #[51, 51, 51, 51, 51, 57, 130, 57, 139], 51) := by decide +kernel
theorem dX11_count_52 : decode cX11_count 52 = .ok (.aload_n 0, 1) := by decide +kernel
theorem dX11_count_53 : decode cX11_count 53 = .ok (.iload_n 1, 1) := by decide +kernel
theorem dX11_count_54 : decode cX11_count 54 = .ok (.invokevirtual 428, 3) := by decide +kernel
theorem dX11_count_57 : decode cX11_count 57 = .ok (.ireturn, 1) := by decide +kernel
theorem dX11_count_58 : decode cX11_count 58 = .ok (.aload_n 0, 1) := by decide +kernel
theorem dX11_count_59 : decode cX11_count 59 = .ok (.invokevirtual 448, 3) := by decide +kernel
theorem dX11_count_62 : decode cX11_count 62 = .ok (.iconst 0, 1) := by decide +kernel
theorem dX11_count_63 : decode cX11_count 63 = .ok (.istore_n 2, 1) := by decide +kernel
theorem dX11_count_64 : decode cX11_count 64 = .ok (.iconst 0, 1) := by decide +kernel
theorem dX11_count_65 : decode cX11_count 65 = .ok (.istore_n 3, 1) := by decide +kernel
theorem dX11_count_66 : decode cX11_count 66 = .ok (.iload_n 3, 1) := by decide +kernel
theorem dX11_count_67 : decode cX11_count 67 = .ok (.sipush 954, 3) := by decide +kernel
theorem dX11_count_70 : decode cX11_count 70 = .ok (.if_icmp .ge 59, 3) := by decide +kernel
theorem dX11_count_73 : decode cX11_count 73 = .ok (.aload_n 0, 1) := by decide +kernel
theorem dX11_count_74 : decode cX11_count 74 = .ok (.iload_n 3, 1) := by decide +kernel
theorem dX11_count_75 : decode cX11_count 75 = .ok (.invokevirtual 466, 3) := by decide +kernel
theorem dX11_count_78 : decode cX11_count 78 = .ok (.ifCond .ne 6, 3) := by decide +kernel
theorem dX11_count_81 : decode cX11_count 81 = .ok (.goto 42, 3) := by decide +kernel
theorem dX11_count_84 : decode cX11_count 84 = .ok (.iload_n 2, 1) := by decide +kernel
theorem dX11_count_85 : decode cX11_count 85 = .ok (.iload_n 1, 1) := by decide +kernel
theorem dX11_count_86 : decode cX11_count 86 = .ok (.iconst 5, 1) := by decide +kernel
theorem dX11_count_87 : decode cX11_count 87 = .ok (.if_icmp .eq 29, 3) := by decide +kernel
theorem dX11_count_90 : decode cX11_count 90 = .ok (.aload_n 0, 1) := by decide +kernel
theorem dX11_count_91 : decode cX11_count 91 = .ok (.getfield 77, 3) := by decide +kernel
theorem dX11_count_94 : decode cX11_count 94 = .ok (.aload_n 0, 1) := by decide +kernel
theorem dX11_count_95 : decode cX11_count 95 = .ok (.iload_n 3, 1) := by decide +kernel
theorem dX11_count_96 : decode cX11_count 96 = .ok (.invokevirtual 425, 3) := by decide +kernel
theorem dX11_count_99 : decode cX11_count 99 = .ok (.baload, 1) := by decide +kernel
theorem dX11_count_100 : decode cX11_count 100 = .ok (.ifCond .eq 20, 3) := by decide +kernel
theorem dX11_count_103 : decode cX11_count 103 = .ok (.aload_n 0, 1) := by decide +kernel
theorem dX11_count_104 : decode cX11_count 104 = .ok (.getfield 80, 3) := by decide +kernel
theorem dX11_count_107 : decode cX11_count 107 = .ok (.aload_n 0, 1) := by decide +kernel
theorem dX11_count_108 : decode cX11_count 108 = .ok (.iload_n 3, 1) := by decide +kernel
theorem dX11_count_109 : decode cX11_count 109 = .ok (.invokevirtual 425, 3) := by decide +kernel
theorem dX11_count_112 : decode cX11_count 112 = .ok (.baload, 1) := by decide +kernel
theorem dX11_count_113 : decode cX11_count 113 = .ok (.ifCond .eq 7, 3) := by decide +kernel
theorem dX11_count_116 : decode cX11_count 116 = .ok (.iconst 1, 1) := by decide +kernel
theorem dX11_count_117 : decode cX11_count 117 = .ok (.goto 4, 3) := by decide +kernel
theorem dX11_count_120 : decode cX11_count 120 = .ok (.iconst 0, 1) := by decide +kernel
theorem dX11_count_121 : decode cX11_count 121 = .ok (.iadd, 1) := by decide +kernel
theorem dX11_count_122 : decode cX11_count 122 = .ok (.istore_n 2, 1) := by decide +kernel
theorem dX11_count_123 : decode cX11_count 123 = .ok (.iinc 3 1, 3) := by decide +kernel
theorem dX11_count_126 : decode cX11_count 126 = .ok (.goto (-60), 3) := by decide +kernel
theorem dX11_count_129 : decode cX11_count 129 = .ok (.iload_n 2, 1) := by decide +kernel
theorem dX11_count_130 : decode cX11_count 130 = .ok (.ireturn, 1) := by decide +kernel
theorem dX11_count_131 : decode cX11_count 131 = .ok (.aload_n 0, 1) := by decide +kernel
theorem dX11_count_132 : decode cX11_count 132 = .ok (.getfield 65, 3) := by decide +kernel
theorem dX11_count_135 : decode cX11_count 135 = .ok (.sipush 344, 3) := by decide +kernel
theorem dX11_count_138 : decode cX11_count 138 = .ok (.iaload, 1) := by decide +kernel
theorem dX11_count_139 : decode cX11_count 139 = .ok (.ireturn, 1) := by decide +kernel
theorem dX11_count_140 : decode cX11_count 140 = .ok (.aload_n 0, 1) := by decide +kernel
theorem dX11_count_141 : decode cX11_count 141 = .ok (.getfield 281, 3) := by decide +kernel
theorem dX11_count_144 : decode cX11_count 144 = .ok (.ireturn, 1) := by decide +kernel
theorem dX11_count_145 : decode cX11_count 145 = .ok (.iconst (-1), 1) := by decide +kernel
theorem dX11_count_146 : decode cX11_count 146 = .ok (.ireturn, 1) := by decide +kernel
theorem dX11_isNet_0 : decode cX11_isNet 0 = .ok (.aload_n 0, 1) := by decide +kernel
theorem dX11_isNet_1 : decode cX11_isNet 1 = .ok (.getfield 58, 3) := by decide +kernel
theorem dX11_isNet_4 : decode cX11_isNet 4 = .ok (.sipush 954, 3) := by decide +kernel
theorem dX11_isNet_7 : decode cX11_isNet 7 = .ok (.aload_n 0, 1) := by decide +kernel
theorem dX11_isNet_8 : decode cX11_isNet 8 = .ok (.getfield 269, 3) := by decide +kernel
theorem dX11_isNet_11 : decode cX11_isNet 11 = .ok (.imul, 1) := by decide +kernel
theorem dX11_isNet_12 : decode cX11_isNet 12 = .ok (.iload_n 1, 1) := by decide +kernel
theorem dX11_isNet_13 : decode cX11_isNet 13 = .ok (.iadd, 1) := by decide +kernel
theorem dX11_isNet_14 : decode cX11_isNet 14 = .ok (.baload, 1) := by decide +kernel
theorem dX11_isNet_15 : decode cX11_isNet 15 = .ok (.ifCond .eq 26, 3) := by decide +kernel
theorem dX11_isNet_18 : decode cX11_isNet 18 = .ok (.aload_n 0, 1) := by decide +kernel
theorem dX11_isNet_19 : decode cX11_isNet 19 = .ok (.getfield 55, 3) := by decide +kernel
theorem dX11_isNet_22 : decode cX11_isNet 22 = .ok (.sipush 954, 3) := by decide +kernel
theorem dX11_isNet_25 : decode cX11_isNet 25 = .ok (.aload_n 0, 1) := by decide +kernel
theorem dX11_isNet_26 : decode cX11_isNet 26 = .ok (.getfield 269, 3) := by decide +kernel
theorem dX11_isNet_29 : decode cX11_isNet 29 = .ok (.imul, 1) := by decide +kernel
theorem dX11_isNet_30 : decode cX11_isNet 30 = .ok (.iload_n 1, 1) := by decide +kernel
theorem dX11_isNet_31 : decode cX11_isNet 31 = .ok (.iadd, 1) := by decide +kernel
theorem dX11_isNet_32 : decode cX11_isNet 32 = .ok (.iaload, 1) := by decide +kernel
theorem dX11_isNet_33 : decode cX11_isNet 33 = .ok (.iload_n 1, 1) := by decide +kernel
theorem dX11_isNet_34 : decode cX11_isNet 34 = .ok (.if_icmp .ne 7, 3) := by decide +kernel
theorem dX11_isNet_37 : decode cX11_isNet 37 = .ok (.iconst 1, 1) := by decide +kernel
theorem dX11_isNet_38 : decode cX11_isNet 38 = .ok (.goto 4, 3) := by decide +kernel
theorem dX11_isNet_41 : decode cX11_isNet 41 = .ok (.iconst 0, 1) := by decide +kernel
theorem dX11_isNet_42 : decode cX11_isNet 42 = .ok (.ireturn, 1) := by decide +kernel
theorem dX11_letter_0 : decode cX11_letter 0 = .ok (.iload_n 1, 1) := by decide +kernel
theorem dX11_letter_1 : decode cX11_letter 1 = .ok (.ifCond .lt 21, 3) := by decide +kernel
theorem dX11_letter_4 : decode cX11_letter 4 = .ok (.iload_n 1, 1) := by decide +kernel
theorem dX11_letter_5 : decode cX11_letter 5 = .ok (.iconst 4, 1) := by decide +kernel
theorem dX11_letter_6 : decode cX11_letter 6 = .ok (.if_icmp .gt 16, 3) := by decide +kernel
theorem dX11_letter_9 : decode cX11_letter 9 = .ok (.iload_n 2, 1) := by decide +kernel
theorem dX11_letter_10 : decode cX11_letter 10 = .ok (.ifCond .lt 12, 3) := by decide +kernel
theorem dX11_letter_13 : decode cX11_letter 13 = .ok (.iload_n 2, 1) := by decide +kernel
theorem dX11_letter_14 : decode cX11_letter 14 = .ok (.aload_n 0, 1) := by decide +kernel
theorem dX11_letter_15 : decode cX11_letter 15 = .ok (.iload_n 1, 1) := by decide +kernel
theorem dX11_letter_16 : decode cX11_letter 16 = .ok (.invokevirtual 428, 3) := by decide +kernel
theorem dX11_letter_19 : decode cX11_letter 19 = .ok (.if_icmp .lt 5, 3) := by decide +kernel
theorem dX11_letter_22 : decode cX11_letter 22 = .ok (.iconst (-1), 1) := by decide +kernel
theorem dX11_letter_23 : decode cX11_letter 23 = .ok (.ireturn, 1) := by decide +kernel
theorem dX11_letter_24 : decode cX11_letter 24 = .ok (.bipush 116, 2) := by decide +kernel
theorem dX11_letter_26 : decode cX11_letter 26 = .ok (.aload_n 0, 1) := by decide +kernel
theorem dX11_letter_27 : decode cX11_letter 27 = .ok (.getfield 269, 3) := by decide +kernel
theorem dX11_letter_30 : decode cX11_letter 30 = .ok (.imul, 1) := by decide +kernel
theorem dX11_letter_31 : decode cX11_letter 31 = .ok (.iload_n 1, 1) := by decide +kernel
theorem dX11_letter_32 : decode cX11_letter 32 = .ok (.invokestatic 216, 3) := by decide +kernel
theorem dX11_letter_35 : decode cX11_letter 35 = .ok (.iadd, 1) := by decide +kernel
theorem dX11_letter_36 : decode cX11_letter 36 = .ok (.iload_n 2, 1) := by decide +kernel
theorem dX11_letter_37 : decode cX11_letter 37 = .ok (.iadd, 1) := by decide +kernel
theorem dX11_letter_38 : decode cX11_letter 38 = .ok (.istore 4, 2) := by decide +kernel
theorem dX11_letter_40 : decode cX11_letter 40 = .ok (.iload_n 3, 1) := by decide +kernel
theorem dX11_letter_41 : decode cX11_letter 41 = .ok (.ifCond .lt 29, 3) := by decide +kernel
theorem dX11_letter_44 : decode cX11_letter 44 = .ok (.iload_n 3, 1) := by decide +kernel
theorem dX11_letter_45 : decode cX11_letter 45 = .ok (.aload_n 0, 1) := by decide +kernel
theorem dX11_letter_46 : decode cX11_letter 46 = .ok (.getfield 37, 3) := by decide +kernel
theorem dX11_letter_49 : decode cX11_letter 49 = .ok (.iload 4, 2) := by decide +kernel
theorem dX11_letter_51 : decode cX11_letter 51 = .ok (.iaload, 1) := by decide +kernel
theorem dX11_letter_52 : decode cX11_letter 52 = .ok (.if_icmp .ge 18, 3) := by decide +kernel
theorem dX11_letter_55 : decode cX11_letter 55 = .ok (.aload_n 0, 1) := by decide +kernel
theorem dX11_letter_56 : decode cX11_letter 56 = .ok (.getfield 52, 3) := by decide +kernel
theorem dX11_letter_59 : decode cX11_letter 59 = .ok (.bipush 8, 2) := by decide +kernel
theorem dX11_letter_61 : decode cX11_letter 61 = .ok (.iload 4, 2) := by decide +kernel
theorem dX11_letter_63 : decode cX11_letter 63 = .ok (.imul, 1) := by decide +kernel
theorem dX11_letter_64 : decode cX11_letter 64 = .ok (.iload_n 3, 1) := by decide +kernel
theorem dX11_letter_65 : decode cX11_letter 65 = .ok (.iadd, 1) := by decide +kernel
theorem dX11_letter_66 : decode cX11_letter 66 = .ok (.baload, 1) := by decide +kernel
theorem dX11_letter_67 : decode cX11_letter 67 = .ok (.goto 4, 3) := by decide +kernel
theorem dX11_letter_70 : decode cX11_letter 70 = .ok (.iconst (-1), 1) := by decide +kernel
theorem dX11_letter_71 : decode cX11_letter 71 = .ok (.ireturn, 1) := by decide +kernel
theorem dX11_key_0 : decode cX11_key 0 = .ok (.iload_n 1, 1) := by decide +kernel
theorem dX11_key_1 : decode cX11_key 1 = .ok (.ifCond .lt 12, 3) := by decide +kernel
theorem dX11_key_4 : decode cX11_key 4 = .ok (.iload_n 1, 1) := by decide +kernel
theorem dX11_key_5 : decode cX11_key 5 = .ok (.aload_n 0, 1) := by decide +kernel
theorem dX11_key_6 : decode cX11_key 6 = .ok (.iconst 1, 1) := by decide +kernel
theorem dX11_key_7 : decode cX11_key 7 = .ok (.invokevirtual 428, 3) := by decide +kernel
theorem dX11_key_10 : decode cX11_key 10 = .ok (.if_icmp .lt 5, 3) := by decide +kernel
theorem dX11_key_13 : decode cX11_key 13 = .ok (.iconst 0, 1) := by decide +kernel
theorem dX11_key_14 : decode cX11_key 14 = .ok (.ireturn, 1) := by decide +kernel
theorem dX11_key_15 : decode cX11_key 15 = .ok (.aload_n 0, 1) := by decide +kernel
theorem dX11_key_16 : decode cX11_key 16 = .ok (.getfield 65, 3) := by decide +kernel
theorem dX11_key_19 : decode cX11_key 19 = .ok (.sipush 320, 3) := by decide +kernel
theorem dX11_key_22 : decode cX11_key 22 = .ok (.iload_n 1, 1) := by decide +kernel
theorem dX11_key_23 : decode cX11_key 23 = .ok (.iadd, 1) := by decide +kernel
theorem dX11_key_24 : decode cX11_key 24 = .ok (.iload_n 2, 1) := by decide +kernel
theorem dX11_key_25 : decode cX11_key 25 = .ok (.ifCond .eq 7, 3) := by decide +kernel
theorem dX11_key_28 : decode cX11_key 28 = .ok (.iconst 1, 1) := by decide +kernel
theorem dX11_key_29 : decode cX11_key 29 = .ok (.goto 4, 3) := by decide +kernel
theorem dX11_key_32 : decode cX11_key 32 = .ok (.iconst 0, 1) := by decide +kernel
theorem dX11_key_33 : decode cX11_key 33 = .ok (.iastore, 1) := by decide +kernel
theorem dX11_key_34 : decode cX11_key 34 = .ok (.iconst 1, 1) := by decide +kernel
theorem dX11_key_35 : decode cX11_key 35 = .ok (.ireturn, 1) := by decide +kernel
theorem dX11_relay_0 : decode cX11_relay 0 = .ok (.iload_n 1, 1) := by decide +kernel
theorem dX11_relay_1 : decode cX11_relay 1 = .ok (.ifCond .lt 12, 3) := by decide +kernel
theorem dX11_relay_4 : decode cX11_relay 4 = .ok (.iload_n 1, 1) := by decide +kernel
theorem dX11_relay_5 : decode cX11_relay 5 = .ok (.aload_n 0, 1) := by decide +kernel
theorem dX11_relay_6 : decode cX11_relay 6 = .ok (.iconst 0, 1) := by decide +kernel
theorem dX11_relay_7 : decode cX11_relay 7 = .ok (.invokevirtual 428, 3) := by decide +kernel
theorem dX11_relay_10 : decode cX11_relay 10 = .ok (.if_icmp .lt 5, 3) := by decide +kernel
theorem dX11_relay_13 : decode cX11_relay 13 = .ok (.iconst (-1), 1) := by decide +kernel
theorem dX11_relay_14 : decode cX11_relay 14 = .ok (.ireturn, 1) := by decide +kernel
theorem dX11_relay_15 : decode cX11_relay 15 = .ok (.bipush 116, 2) := by decide +kernel
theorem dX11_relay_17 : decode cX11_relay 17 = .ok (.aload_n 0, 1) := by decide +kernel
theorem dX11_relay_18 : decode cX11_relay 18 = .ok (.getfield 269, 3) := by decide +kernel
theorem dX11_relay_21 : decode cX11_relay 21 = .ok (.imul, 1) := by decide +kernel
theorem dX11_relay_22 : decode cX11_relay 22 = .ok (.iload_n 1, 1) := by decide +kernel
theorem dX11_relay_23 : decode cX11_relay 23 = .ok (.iadd, 1) := by decide +kernel
theorem dX11_relay_24 : decode cX11_relay 24 = .ok (.istore_n 3, 1) := by decide +kernel
theorem dX11_relay_25 : decode cX11_relay 25 = .ok (.iload_n 2, 1) := by decide +kernel
theorem dX11_relay_26 : decode cX11_relay 26 = .ok (.tableswitch 169 0 6 #[42, 51, 61, 90, 97, 104, 111], 42) := by decide +kernel
theorem dX11_relay_68 : decode cX11_relay 68 = .ok (.aload_n 0, 1) := by decide +kernel
theorem dX11_relay_69 : decode cX11_relay 69 = .ok (.getfield 65, 3) := by decide +kernel
theorem dX11_relay_72 : decode cX11_relay 72 = .ok (.iconst 0, 1) := by decide +kernel
theorem dX11_relay_73 : decode cX11_relay 73 = .ok (.iload_n 1, 1) := by decide +kernel
theorem dX11_relay_74 : decode cX11_relay 74 = .ok (.iadd, 1) := by decide +kernel
theorem dX11_relay_75 : decode cX11_relay 75 = .ok (.iaload, 1) := by decide +kernel
theorem dX11_relay_76 : decode cX11_relay 76 = .ok (.ireturn, 1) := by decide +kernel
theorem dX11_relay_77 : decode cX11_relay 77 = .ok (.aload_n 0, 1) := by decide +kernel
theorem dX11_relay_78 : decode cX11_relay 78 = .ok (.getfield 65, 3) := by decide +kernel
theorem dX11_relay_81 : decode cX11_relay 81 = .ok (.bipush 40, 2) := by decide +kernel
theorem dX11_relay_83 : decode cX11_relay 83 = .ok (.iload_n 1, 1) := by decide +kernel
theorem dX11_relay_84 : decode cX11_relay 84 = .ok (.iadd, 1) := by decide +kernel
theorem dX11_relay_85 : decode cX11_relay 85 = .ok (.iaload, 1) := by decide +kernel
theorem dX11_relay_86 : decode cX11_relay 86 = .ok (.ireturn, 1) := by decide +kernel
theorem dX11_relay_87 : decode cX11_relay 87 = .ok (.aload_n 0, 1) := by decide +kernel
theorem dX11_relay_88 : decode cX11_relay 88 = .ok (.invokevirtual 448, 3) := by decide +kernel
theorem dX11_relay_91 : decode cX11_relay 91 = .ok (.aload_n 0, 1) := by decide +kernel
theorem dX11_relay_92 : decode cX11_relay 92 = .ok (.iconst 2, 1) := by decide +kernel
theorem dX11_relay_93 : decode cX11_relay 93 = .ok (.bipush 20, 2) := by decide +kernel
theorem dX11_relay_95 : decode cX11_relay 95 = .ok (.iload_n 1, 1) := by decide +kernel
theorem dX11_relay_96 : decode cX11_relay 96 = .ok (.imul, 1) := by decide +kernel
theorem dX11_relay_97 : decode cX11_relay 97 = .ok (.iadd, 1) := by decide +kernel
theorem dX11_relay_98 : decode cX11_relay 98 = .ok (.iconst 3, 1) := by decide +kernel
theorem dX11_relay_99 : decode cX11_relay 99 = .ok (.bipush 20, 2) := by decide +kernel
theorem dX11_relay_101 : decode cX11_relay 101 = .ok (.iload_n 1, 1) := by decide +kernel
theorem dX11_relay_102 : decode cX11_relay 102 = .ok (.imul, 1) := by decide +kernel
theorem dX11_relay_103 : decode cX11_relay 103 = .ok (.iadd, 1) := by decide +kernel
theorem dX11_relay_104 : decode cX11_relay 104 = .ok (.invokevirtual 454, 3) := by decide +kernel
theorem dX11_relay_107 : decode cX11_relay 107 = .ok (.ifCond .eq 7, 3) := by decide +kernel
theorem dX11_relay_110 : decode cX11_relay 110 = .ok (.iconst 1, 1) := by decide +kernel
theorem dX11_relay_111 : decode cX11_relay 111 = .ok (.goto 4, 3) := by decide +kernel
theorem dX11_relay_114 : decode cX11_relay 114 = .ok (.iconst 0, 1) := by decide +kernel
theorem dX11_relay_115 : decode cX11_relay 115 = .ok (.ireturn, 1) := by decide +kernel
theorem dX11_relay_116 : decode cX11_relay 116 = .ok (.aload_n 0, 1) := by decide +kernel
theorem dX11_relay_117 : decode cX11_relay 117 = .ok (.getfield 40, 3) := by decide +kernel
theorem dX11_relay_120 : decode cX11_relay 120 = .ok (.iload_n 3, 1) := by decide +kernel
theorem dX11_relay_121 : decode cX11_relay 121 = .ok (.iaload, 1) := by decide +kernel
theorem dX11_relay_122 : decode cX11_relay 122 = .ok (.ireturn, 1) := by decide +kernel
theorem dX11_relay_123 : decode cX11_relay 123 = .ok (.aload_n 0, 1) := by decide +kernel
theorem dX11_relay_124 : decode cX11_relay 124 = .ok (.getfield 43, 3) := by decide +kernel
theorem dX11_relay_127 : decode cX11_relay 127 = .ok (.iload_n 3, 1) := by decide +kernel
theorem dX11_relay_128 : decode cX11_relay 128 = .ok (.iaload, 1) := by decide +kernel
theorem dX11_relay_129 : decode cX11_relay 129 = .ok (.ireturn, 1) := by decide +kernel
theorem dX11_relay_130 : decode cX11_relay 130 = .ok (.aload_n 0, 1) := by decide +kernel
theorem dX11_relay_131 : decode cX11_relay 131 = .ok (.getfield 46, 3) := by decide +kernel
theorem dX11_relay_134 : decode cX11_relay 134 = .ok (.iload_n 3, 1) := by decide +kernel
theorem dX11_relay_135 : decode cX11_relay 135 = .ok (.iaload, 1) := by decide +kernel
theorem dX11_relay_136 : decode cX11_relay 136 = .ok (.ireturn, 1) := by decide +kernel
theorem dX11_relay_137 : decode cX11_relay 137 = .ok (.iconst 0, 1) := by decide +kernel
theorem dX11_relay_138 : decode cX11_relay 138 = .ok (.istore 4, 2) := by decide +kernel
theorem dX11_relay_140 : decode cX11_relay 140 = .ok (.iconst 0, 1) := by decide +kernel
theorem dX11_relay_141 : decode cX11_relay 141 = .ok (.istore 5, 2) := by decide +kernel
theorem dX11_relay_143 : decode cX11_relay 143 = .ok (.iload 5, 2) := by decide +kernel
theorem dX11_relay_145 : decode cX11_relay 145 = .ok (.bipush 20, 2) := by decide +kernel
theorem dX11_relay_147 : decode cX11_relay 147 = .ok (.if_icmp .ge 45, 3) := by decide +kernel
theorem dX11_relay_150 : decode cX11_relay 150 = .ok (.iload 4, 2) := by decide +kernel
theorem dX11_relay_152 : decode cX11_relay 152 = .ok (.aload_n 0, 1) := by decide +kernel
theorem dX11_relay_153 : decode cX11_relay 153 = .ok (.getfield 58, 3) := by decide +kernel
theorem dX11_relay_156 : decode cX11_relay 156 = .ok (.sipush 954, 3) := by decide +kernel
theorem dX11_relay_159 : decode cX11_relay 159 = .ok (.aload_n 0, 1) := by decide +kernel
theorem dX11_relay_160 : decode cX11_relay 160 = .ok (.getfield 269, 3) := by decide +kernel
theorem dX11_relay_163 : decode cX11_relay 163 = .ok (.imul, 1) := by decide +kernel
theorem dX11_relay_164 : decode cX11_relay 164 = .ok (.iconst 2, 1) := by decide +kernel
theorem dX11_relay_165 : decode cX11_relay 165 = .ok (.iadd, 1) := by decide +kernel
theorem dX11_relay_166 : decode cX11_relay 166 = .ok (.bipush 20, 2) := by decide +kernel
theorem dX11_relay_168 : decode cX11_relay 168 = .ok (.iload_n 1, 1) := by decide +kernel
theorem dX11_relay_169 : decode cX11_relay 169 = .ok (.imul, 1) := by decide +kernel
theorem dX11_relay_170 : decode cX11_relay 170 = .ok (.iadd, 1) := by decide +kernel
theorem dX11_relay_171 : decode cX11_relay 171 = .ok (.iload 5, 2) := by decide +kernel
theorem dX11_relay_173 : decode cX11_relay 173 = .ok (.iadd, 1) := by decide +kernel
theorem dX11_relay_174 : decode cX11_relay 174 = .ok (.baload, 1) := by decide +kernel
theorem dX11_relay_175 : decode cX11_relay 175 = .ok (.ifCond .eq 7, 3) := by decide +kernel
theorem dX11_relay_178 : decode cX11_relay 178 = .ok (.iconst 1, 1) := by decide +kernel
theorem dX11_relay_179 : decode cX11_relay 179 = .ok (.goto 4, 3) := by decide +kernel
theorem dX11_relay_182 : decode cX11_relay 182 = .ok (.iconst 0, 1) := by decide +kernel
theorem dX11_relay_183 : decode cX11_relay 183 = .ok (.iadd, 1) := by decide +kernel
theorem dX11_relay_184 : decode cX11_relay 184 = .ok (.istore 4, 2) := by decide +kernel
theorem dX11_relay_186 : decode cX11_relay 186 = .ok (.iinc 5 1, 3) := by decide +kernel
theorem dX11_relay_189 : decode cX11_relay 189 = .ok (.goto (-46), 3) := by decide +kernel
theorem dX11_relay_192 : decode cX11_relay 192 = .ok (.iload 4, 2) := by decide +kernel
theorem dX11_relay_194 : decode cX11_relay 194 = .ok (.ireturn, 1) := by decide +kernel
theorem dX11_relay_195 : decode cX11_relay 195 = .ok (.iconst (-1), 1) := by decide +kernel
theorem dX11_relay_196 : decode cX11_relay 196 = .ok (.ireturn, 1) := by decide +kernel
theorem dX11_isContact_0 : decode cX11_isContact 0 = .ok (.iload_n 1, 1) := by decide +kernel
theorem dX11_isContact_1 : decode cX11_isContact 1 = .ok (.ifCond .lt 39, 3) := by decide +kernel
theorem dX11_isContact_4 : decode cX11_isContact 4 = .ok (.iload_n 1, 1) := by decide +kernel
theorem dX11_isContact_5 : decode cX11_isContact 5 = .ok (.aload_n 0, 1) := by decide +kernel
theorem dX11_isContact_6 : decode cX11_isContact 6 = .ok (.iconst 0, 1) := by decide +kernel
theorem dX11_isContact_7 : decode cX11_isContact 7 = .ok (.invokevirtual 428, 3) := by decide +kernel
theorem dX11_isContact_10 : decode cX11_isContact 10 = .ok (.if_icmp .ge 30, 3) := by decide +kernel
theorem dX11_isContact_13 : decode cX11_isContact 13 = .ok (.iload_n 2, 1) := by decide +kernel
theorem dX11_isContact_14 : decode cX11_isContact 14 = .ok (.iconst 1, 1) := by decide +kernel
theorem dX11_isContact_15 : decode cX11_isContact 15 = .ok (.if_icmp .lt 25, 3) := by decide +kernel
theorem dX11_isContact_18 : decode cX11_isContact 18 = .ok (.iload_n 2, 1) := by decide +kernel
theorem dX11_isContact_19 : decode cX11_isContact 19 = .ok (.aload_n 0, 1) := by decide +kernel
theorem dX11_isContact_20 : decode cX11_isContact 20 = .ok (.getfield 46, 3) := by decide +kernel
theorem dX11_isContact_23 : decode cX11_isContact 23 = .ok (.bipush 116, 2) := by decide +kernel
theorem dX11_isContact_25 : decode cX11_isContact 25 = .ok (.aload_n 0, 1) := by decide +kernel
theorem dX11_isContact_26 : decode cX11_isContact 26 = .ok (.getfield 269, 3) := by decide +kernel
theorem dX11_isContact_29 : decode cX11_isContact 29 = .ok (.imul, 1) := by decide +kernel
theorem dX11_isContact_30 : decode cX11_isContact 30 = .ok (.iload_n 1, 1) := by decide +kernel
theorem dX11_isContact_31 : decode cX11_isContact 31 = .ok (.iadd, 1) := by decide +kernel
theorem dX11_isContact_32 : decode cX11_isContact 32 = .ok (.iaload, 1) := by decide +kernel
theorem dX11_isContact_33 : decode cX11_isContact 33 = .ok (.if_icmp .gt 7, 3) := by decide +kernel
theorem dX11_isContact_36 : decode cX11_isContact 36 = .ok (.iconst 1, 1) := by decide +kernel
theorem dX11_isContact_37 : decode cX11_isContact 37 = .ok (.goto 4, 3) := by decide +kernel
theorem dX11_isContact_40 : decode cX11_isContact 40 = .ok (.iconst 0, 1) := by decide +kernel
theorem dX11_isContact_41 : decode cX11_isContact 41 = .ok (.ireturn, 1) := by decide +kernel
theorem dX11_contact_0 : decode cX11_contact 0 = .ok (.aload_n 0, 1) := by decide +kernel
theorem dX11_contact_1 : decode cX11_contact 1 = .ok (.iload_n 1, 1) := by decide +kernel
theorem dX11_contact_2 : decode cX11_contact 2 = .ok (.iload_n 2, 1) := by decide +kernel
theorem dX11_contact_3 : decode cX11_contact 3 = .ok (.invokevirtual 469, 3) := by decide +kernel
theorem dX11_contact_6 : decode cX11_contact 6 = .ok (.ifCond .eq 22, 3) := by decide +kernel
theorem dX11_contact_9 : decode cX11_contact 9 = .ok (.aload_n 0, 1) := by decide +kernel
theorem dX11_contact_10 : decode cX11_contact 10 = .ok (.getfield 65, 3) := by decide +kernel
theorem dX11_contact_13 : decode cX11_contact 13 = .ok (.bipush 80, 2) := by decide +kernel
theorem dX11_contact_15 : decode cX11_contact 15 = .ok (.bipush 6, 2) := by decide +kernel
theorem dX11_contact_17 : decode cX11_contact 17 = .ok (.iload_n 1, 1) := by decide +kernel
theorem dX11_contact_18 : decode cX11_contact 18 = .ok (.imul, 1) := by decide +kernel
theorem dX11_contact_19 : decode cX11_contact 19 = .ok (.iadd, 1) := by decide +kernel
theorem dX11_contact_20 : decode cX11_contact 20 = .ok (.iload_n 2, 1) := by decide +kernel
theorem dX11_contact_21 : decode cX11_contact 21 = .ok (.iadd, 1) := by decide +kernel
theorem dX11_contact_22 : decode cX11_contact 22 = .ok (.iconst 1, 1) := by decide +kernel
theorem dX11_contact_23 : decode cX11_contact 23 = .ok (.isub, 1) := by decide +kernel
theorem dX11_contact_24 : decode cX11_contact 24 = .ok (.iaload, 1) := by decide +kernel
theorem dX11_contact_25 : decode cX11_contact 25 = .ok (.goto 4, 3) := by decide +kernel
theorem dX11_contact_28 : decode cX11_contact 28 = .ok (.iconst (-1), 1) := by decide +kernel
theorem dX11_contact_29 : decode cX11_contact 29 = .ok (.ireturn, 1) := by decide +kernel
theorem dX11_lamp_0 : decode cX11_lamp 0 = .ok (.iload_n 1, 1) := by decide +kernel
theorem dX11_lamp_1 : decode cX11_lamp 1 = .ok (.ifCond .lt 12, 3) := by decide +kernel
theorem dX11_lamp_4 : decode cX11_lamp 4 = .ok (.iload_n 1, 1) := by decide +kernel
theorem dX11_lamp_5 : decode cX11_lamp 5 = .ok (.aload_n 0, 1) := by decide +kernel
theorem dX11_lamp_6 : decode cX11_lamp 6 = .ok (.iconst 2, 1) := by decide +kernel
theorem dX11_lamp_7 : decode cX11_lamp 7 = .ok (.invokevirtual 428, 3) := by decide +kernel
theorem dX11_lamp_10 : decode cX11_lamp 10 = .ok (.if_icmp .lt 5, 3) := by decide +kernel
theorem dX11_lamp_13 : decode cX11_lamp 13 = .ok (.iconst (-1), 1) := by decide +kernel
theorem dX11_lamp_14 : decode cX11_lamp 14 = .ok (.ireturn, 1) := by decide +kernel
theorem dX11_lamp_15 : decode cX11_lamp 15 = .ok (.aload_n 0, 1) := by decide +kernel
theorem dX11_lamp_16 : decode cX11_lamp 16 = .ok (.invokevirtual 448, 3) := by decide +kernel
theorem dX11_lamp_19 : decode cX11_lamp 19 = .ok (.aload_n 0, 1) := by decide +kernel
theorem dX11_lamp_20 : decode cX11_lamp 20 = .ok (.aload_n 0, 1) := by decide +kernel
theorem dX11_lamp_21 : decode cX11_lamp 21 = .ok (.iconst 2, 1) := by decide +kernel
theorem dX11_lamp_22 : decode cX11_lamp 22 = .ok (.iload_n 1, 1) := by decide +kernel
theorem dX11_lamp_23 : decode cX11_lamp 23 = .ok (.iconst 0, 1) := by decide +kernel
theorem dX11_lamp_24 : decode cX11_lamp 24 = .ok (.invokevirtual 435, 3) := by decide +kernel
theorem dX11_lamp_27 : decode cX11_lamp 27 = .ok (.aload_n 0, 1) := by decide +kernel
theorem dX11_lamp_28 : decode cX11_lamp 28 = .ok (.iconst 2, 1) := by decide +kernel
theorem dX11_lamp_29 : decode cX11_lamp 29 = .ok (.iload_n 1, 1) := by decide +kernel
theorem dX11_lamp_30 : decode cX11_lamp 30 = .ok (.iconst 1, 1) := by decide +kernel
theorem dX11_lamp_31 : decode cX11_lamp 31 = .ok (.invokevirtual 435, 3) := by decide +kernel
theorem dX11_lamp_34 : decode cX11_lamp 34 = .ok (.invokevirtual 454, 3) := by decide +kernel
theorem dX11_lamp_37 : decode cX11_lamp 37 = .ok (.ifCond .eq 7, 3) := by decide +kernel
theorem dX11_lamp_40 : decode cX11_lamp 40 = .ok (.iconst 1, 1) := by decide +kernel
theorem dX11_lamp_41 : decode cX11_lamp 41 = .ok (.goto 4, 3) := by decide +kernel
theorem dX11_lamp_44 : decode cX11_lamp 44 = .ok (.iconst 0, 1) := by decide +kernel
theorem dX11_lamp_45 : decode cX11_lamp 45 = .ok (.ireturn, 1) := by decide +kernel
theorem dX11_net_0 : decode cX11_net 0 = .ok (.iload_n 1, 1) := by decide +kernel
theorem dX11_net_1 : decode cX11_net 1 = .ok (.iconst 5, 1) := by decide +kernel
theorem dX11_net_2 : decode cX11_net 2 = .ok (.if_icmp .ne 24, 3) := by decide +kernel
theorem dX11_net_5 : decode cX11_net 5 = .ok (.iload_n 2, 1) := by decide +kernel
theorem dX11_net_6 : decode cX11_net 6 = .ok (.ifCond .ne 12, 3) := by decide +kernel
theorem dX11_net_9 : decode cX11_net 9 = .ok (.iload_n 3, 1) := by decide +kernel
theorem dX11_net_10 : decode cX11_net 10 = .ok (.ifCond .lt 8, 3) := by decide +kernel
theorem dX11_net_13 : decode cX11_net 13 = .ok (.iload_n 3, 1) := by decide +kernel
theorem dX11_net_14 : decode cX11_net 14 = .ok (.iconst 1, 1) := by decide +kernel
theorem dX11_net_15 : decode cX11_net 15 = .ok (.if_icmp .le 5, 3) := by decide +kernel
theorem dX11_net_18 : decode cX11_net 18 = .ok (.iconst (-1), 1) := by decide +kernel
theorem dX11_net_19 : decode cX11_net 19 = .ok (.ireturn, 1) := by decide +kernel
theorem dX11_net_20 : decode cX11_net 20 = .ok (.iload_n 3, 1) := by decide +kernel
theorem dX11_net_21 : decode cX11_net 21 = .ok (.istore 4, 2) := by decide +kernel
theorem dX11_net_23 : decode cX11_net 23 = .ok (.goto 70, 3) := by decide +kernel
theorem dX11_net_26 : decode cX11_net 26 = .ok (.iload_n 1, 1) := by decide +kernel
theorem dX11_net_27 : decode cX11_net 27 = .ok (.ifCond .lt 55, 3) := by decide +kernel
theorem dX11_net_30 : decode cX11_net 30 = .ok (.iload_n 1, 1) := by decide +kernel
theorem dX11_net_31 : decode cX11_net 31 = .ok (.iconst 4, 1) := by decide +kernel
theorem dX11_net_32 : decode cX11_net 32 = .ok (.if_icmp .gt 50, 3) := by decide +kernel
theorem dX11_net_35 : decode cX11_net 35 = .ok (.iload_n 2, 1) := by decide +kernel
theorem dX11_net_36 : decode cX11_net 36 = .ok (.ifCond .lt 46, 3) := by decide +kernel
theorem dX11_net_39 : decode cX11_net 39 = .ok (.iload_n 2, 1) := by decide +kernel
theorem dX11_net_40 : decode cX11_net 40 = .ok (.aload_n 0, 1) := by decide +kernel
theorem dX11_net_41 : decode cX11_net 41 = .ok (.iload_n 1, 1) := by decide +kernel
theorem dX11_net_42 : decode cX11_net 42 = .ok (.invokevirtual 428, 3) := by decide +kernel
theorem dX11_net_45 : decode cX11_net 45 = .ok (.if_icmp .ge 37, 3) := by decide +kernel
theorem dX11_net_48 : decode cX11_net 48 = .ok (.iload_n 3, 1) := by decide +kernel
theorem dX11_net_49 : decode cX11_net 49 = .ok (.ifCond .lt 33, 3) := by decide +kernel
theorem dX11_net_52 : decode cX11_net 52 = .ok (.iload_n 3, 1) := by decide +kernel
theorem dX11_net_53 : decode cX11_net 53 = .ok (.iload_n 1, 1) := by decide +kernel
theorem dX11_net_54 : decode cX11_net 54 = .ok (.ifCond .ne 24, 3) := by decide +kernel
theorem dX11_net_57 : decode cX11_net 57 = .ok (.iconst 3, 1) := by decide +kernel
theorem dX11_net_58 : decode cX11_net 58 = .ok (.aload_n 0, 1) := by decide +kernel
theorem dX11_net_59 : decode cX11_net 59 = .ok (.getfield 46, 3) := by decide +kernel
theorem dX11_net_62 : decode cX11_net 62 = .ok (.bipush 116, 2) := by decide +kernel
theorem dX11_net_64 : decode cX11_net 64 = .ok (.aload_n 0, 1) := by decide +kernel
theorem dX11_net_65 : decode cX11_net 65 = .ok (.getfield 269, 3) := by decide +kernel
theorem dX11_net_68 : decode cX11_net 68 = .ok (.imul, 1) := by decide +kernel
theorem dX11_net_69 : decode cX11_net 69 = .ok (.iload_n 2, 1) := by decide +kernel
theorem dX11_net_70 : decode cX11_net 70 = .ok (.iadd, 1) := by decide +kernel
theorem dX11_net_71 : decode cX11_net 71 = .ok (.iaload, 1) := by decide +kernel
theorem dX11_net_72 : decode cX11_net 72 = .ok (.imul, 1) := by decide +kernel
theorem dX11_net_73 : decode cX11_net 73 = .ok (.iconst 1, 1) := by decide +kernel
theorem dX11_net_74 : decode cX11_net 74 = .ok (.iadd, 1) := by decide +kernel
theorem dX11_net_75 : decode cX11_net 75 = .ok (.goto 4, 3) := by decide +kernel
theorem dX11_net_78 : decode cX11_net 78 = .ok (.iconst 1, 1) := by decide +kernel
theorem dX11_net_79 : decode cX11_net 79 = .ok (.if_icmp .le 5, 3) := by decide +kernel
theorem dX11_net_82 : decode cX11_net 82 = .ok (.iconst (-1), 1) := by decide +kernel
theorem dX11_net_83 : decode cX11_net 83 = .ok (.ireturn, 1) := by decide +kernel
theorem dX11_net_84 : decode cX11_net 84 = .ok (.aload_n 0, 1) := by decide +kernel
theorem dX11_net_85 : decode cX11_net 85 = .ok (.iload_n 1, 1) := by decide +kernel
theorem dX11_net_86 : decode cX11_net 86 = .ok (.iload_n 2, 1) := by decide +kernel
theorem dX11_net_87 : decode cX11_net 87 = .ok (.iload_n 3, 1) := by decide +kernel
theorem dX11_net_88 : decode cX11_net 88 = .ok (.invokevirtual 435, 3) := by decide +kernel
theorem dX11_net_91 : decode cX11_net 91 = .ok (.istore 4, 2) := by decide +kernel
theorem dX11_net_93 : decode cX11_net 93 = .ok (.aload_n 0, 1) := by decide +kernel
theorem dX11_net_94 : decode cX11_net 94 = .ok (.invokevirtual 448, 3) := by decide +kernel
theorem dX11_net_97 : decode cX11_net 97 = .ok (.aload_n 0, 1) := by decide +kernel
theorem dX11_net_98 : decode cX11_net 98 = .ok (.getfield 77, 3) := by decide +kernel
theorem dX11_net_101 : decode cX11_net 101 = .ok (.aload_n 0, 1) := by decide +kernel
theorem dX11_net_102 : decode cX11_net 102 = .ok (.iload 4, 2) := by decide +kernel
theorem dX11_net_104 : decode cX11_net 104 = .ok (.invokevirtual 425, 3) := by decide +kernel
theorem dX11_net_107 : decode cX11_net 107 = .ok (.baload, 1) := by decide +kernel
theorem dX11_net_108 : decode cX11_net 108 = .ok (.ifCond .eq 7, 3) := by decide +kernel
theorem dX11_net_111 : decode cX11_net 111 = .ok (.iconst 1, 1) := by decide +kernel
theorem dX11_net_112 : decode cX11_net 112 = .ok (.goto 4, 3) := by decide +kernel
theorem dX11_net_115 : decode cX11_net 115 = .ok (.iconst 0, 1) := by decide +kernel
theorem dX11_net_116 : decode cX11_net 116 = .ok (.aload_n 0, 1) := by decide +kernel
theorem dX11_net_117 : decode cX11_net 117 = .ok (.getfield 80, 3) := by decide +kernel
theorem dX11_net_120 : decode cX11_net 120 = .ok (.aload_n 0, 1) := by decide +kernel
theorem dX11_net_121 : decode cX11_net 121 = .ok (.iload 4, 2) := by decide +kernel
theorem dX11_net_123 : decode cX11_net 123 = .ok (.invokevirtual 425, 3) := by decide +kernel
theorem dX11_net_126 : decode cX11_net 126 = .ok (.baload, 1) := by decide +kernel
theorem dX11_net_127 : decode cX11_net 127 = .ok (.ifCond .eq 7, 3) := by decide +kernel
theorem dX11_net_130 : decode cX11_net 130 = .ok (.iconst 2, 1) := by decide +kernel
theorem dX11_net_131 : decode cX11_net 131 = .ok (.goto 4, 3) := by decide +kernel
theorem dX11_net_134 : decode cX11_net 134 = .ok (.iconst 0, 1) := by decide +kernel
theorem dX11_net_135 : decode cX11_net 135 = .ok (.iadd, 1) := by decide +kernel
theorem dX11_net_136 : decode cX11_net 136 = .ok (.ireturn, 1) := by decide +kernel
theorem dX11_stuck_0 : decode cX11_stuck 0 = .ok (.aload_n 0, 1) := by decide +kernel
theorem dX11_stuck_1 : decode cX11_stuck 1 = .ok (.iload_n 1, 1) := by decide +kernel
theorem dX11_stuck_2 : decode cX11_stuck 2 = .ok (.iload_n 2, 1) := by decide +kernel
theorem dX11_stuck_3 : decode cX11_stuck 3 = .ok (.invokevirtual 469, 3) := by decide +kernel
theorem dX11_stuck_6 : decode cX11_stuck 6 = .ok (.ifCond .eq 13, 3) := by decide +kernel
theorem dX11_stuck_9 : decode cX11_stuck 9 = .ok (.iload_n 3, 1) := by decide +kernel
theorem dX11_stuck_10 : decode cX11_stuck 10 = .ok (.iconst (-1), 1) := by decide +kernel
theorem dX11_stuck_11 : decode cX11_stuck 11 = .ok (.if_icmp .lt 8, 3) := by decide +kernel
theorem dX11_stuck_14 : decode cX11_stuck 14 = .ok (.iload_n 3, 1) := by decide +kernel
theorem dX11_stuck_15 : decode cX11_stuck 15 = .ok (.iconst 2, 1) := by decide +kernel
theorem dX11_stuck_16 : decode cX11_stuck 16 = .ok (.if_icmp .le 5, 3) := by decide +kernel
theorem dX11_stuck_19 : decode cX11_stuck 19 = .ok (.iconst 0, 1) := by decide +kernel
theorem dX11_stuck_20 : decode cX11_stuck 20 = .ok (.ireturn, 1) := by decide +kernel
theorem dX11_stuck_21 : decode cX11_stuck 21 = .ok (.aload_n 0, 1) := by decide +kernel
theorem dX11_stuck_22 : decode cX11_stuck 22 = .ok (.getfield 68, 3) := by decide +kernel
theorem dX11_stuck_25 : decode cX11_stuck 25 = .ok (.bipush 6, 2) := by decide +kernel
theorem dX11_stuck_27 : decode cX11_stuck 27 = .ok (.iload_n 1, 1) := by decide +kernel
theorem dX11_stuck_28 : decode cX11_stuck 28 = .ok (.imul, 1) := by decide +kernel
theorem dX11_stuck_29 : decode cX11_stuck 29 = .ok (.iload_n 2, 1) := by decide +kernel
theorem dX11_stuck_30 : decode cX11_stuck 30 = .ok (.iadd, 1) := by decide +kernel
theorem dX11_stuck_31 : decode cX11_stuck 31 = .ok (.iconst 1, 1) := by decide +kernel
theorem dX11_stuck_32 : decode cX11_stuck 32 = .ok (.isub, 1) := by decide +kernel
theorem dX11_stuck_33 : decode cX11_stuck 33 = .ok (.iload_n 3, 1) := by decide +kernel
theorem dX11_stuck_34 : decode cX11_stuck 34 = .ok (.iastore, 1) := by decide +kernel
theorem dX11_stuck_35 : decode cX11_stuck 35 = .ok (.iconst 1, 1) := by decide +kernel
theorem dX11_stuck_36 : decode cX11_stuck 36 = .ok (.ireturn, 1) := by decide +kernel
theorem dX11_dust_0 : decode cX11_dust 0 = .ok (.aload_n 0, 1) := by decide +kernel
theorem dX11_dust_1 : decode cX11_dust 1 = .ok (.iload_n 1, 1) := by decide +kernel
theorem dX11_dust_2 : decode cX11_dust 2 = .ok (.iload_n 2, 1) := by decide +kernel
theorem dX11_dust_3 : decode cX11_dust 3 = .ok (.invokevirtual 469, 3) := by decide +kernel
theorem dX11_dust_6 : decode cX11_dust 6 = .ok (.ifCond .ne 5, 3) := by decide +kernel
theorem dX11_dust_9 : decode cX11_dust 9 = .ok (.iconst 0, 1) := by decide +kernel
theorem dX11_dust_10 : decode cX11_dust 10 = .ok (.ireturn, 1) := by decide +kernel
theorem dX11_dust_11 : decode cX11_dust 11 = .ok (.aload_n 0, 1) := by decide +kernel
theorem dX11_dust_12 : decode cX11_dust 12 = .ok (.getfield 71, 3) := by decide +kernel
theorem dX11_dust_15 : decode cX11_dust 15 = .ok (.bipush 6, 2) := by decide +kernel
theorem dX11_dust_17 : decode cX11_dust 17 = .ok (.iload_n 1, 1) := by decide +kernel
theorem dX11_dust_18 : decode cX11_dust 18 = .ok (.imul, 1) := by decide +kernel
theorem dX11_dust_19 : decode cX11_dust 19 = .ok (.iload_n 2, 1) := by decide +kernel
theorem dX11_dust_20 : decode cX11_dust 20 = .ok (.iadd, 1) := by decide +kernel
theorem dX11_dust_21 : decode cX11_dust 21 = .ok (.iconst 1, 1) := by decide +kernel
theorem dX11_dust_22 : decode cX11_dust 22 = .ok (.isub, 1) := by decide +kernel
theorem dX11_dust_23 : decode cX11_dust 23 = .ok (.iload_n 3, 1) := by decide +kernel
theorem dX11_dust_24 : decode cX11_dust 24 = .ok (.bastore, 1) := by decide +kernel
theorem dX11_dust_25 : decode cX11_dust 25 = .ok (.iconst 1, 1) := by decide +kernel
theorem dX11_dust_26 : decode cX11_dust 26 = .ok (.ireturn, 1) := by decide +kernel
theorem dX11_copy_0 : decode cX11_copy 0 = .ok (.iconst 0, 1) := by decide +kernel
theorem dX11_copy_1 : decode cX11_copy 1 = .ok (.istore_n 3, 1) := by decide +kernel
theorem dX11_copy_2 : decode cX11_copy 2 = .ok (.iload_n 3, 1) := by decide +kernel
theorem dX11_copy_3 : decode cX11_copy 3 = .ok (.sipush 345, 3) := by decide +kernel
theorem dX11_copy_6 : decode cX11_copy 6 = .ok (.if_icmp .ge 15, 3) := by decide +kernel
theorem dX11_copy_9 : decode cX11_copy 9 = .ok (.aload_n 2, 1) := by decide +kernel
theorem dX11_copy_10 : decode cX11_copy 10 = .ok (.iload_n 3, 1) := by decide +kernel
theorem dX11_copy_11 : decode cX11_copy 11 = .ok (.aload_n 1, 1) := by decide +kernel
theorem dX11_copy_12 : decode cX11_copy 12 = .ok (.iload_n 3, 1) := by decide +kernel
theorem dX11_copy_13 : decode cX11_copy 13 = .ok (.iaload, 1) := by decide +kernel
theorem dX11_copy_14 : decode cX11_copy 14 = .ok (.iastore, 1) := by decide +kernel
theorem dX11_copy_15 : decode cX11_copy 15 = .ok (.iinc 3 1, 3) := by decide +kernel
theorem dX11_copy_18 : decode cX11_copy 18 = .ok (.goto (-16), 3) := by decide +kernel
theorem dX11_copy_21 : decode cX11_copy 21 = .ok (.return_, 1) := by decide +kernel
theorem dX11_race_0 : decode cX11_race 0 = .ok (.iload_n 1, 1) := by decide +kernel
theorem dX11_race_1 : decode cX11_race 1 = .ok (.ifCond .lt 9, 3) := by decide +kernel
theorem dX11_race_4 : decode cX11_race 4 = .ok (.iload_n 1, 1) := by decide +kernel
theorem dX11_race_5 : decode cX11_race 5 = .ok (.bipush 16, 2) := by decide +kernel
theorem dX11_race_7 : decode cX11_race 7 = .ok (.if_icmp .le 6, 3) := by decide +kernel
theorem dX11_race_10 : decode cX11_race 10 = .ok (.bipush (-2), 2) := by decide +kernel
theorem dX11_race_12 : decode cX11_race 12 = .ok (.ireturn, 1) := by decide +kernel
theorem dX11_race_13 : decode cX11_race 13 = .ok (.aload_n 0, 1) := by decide +kernel
theorem dX11_race_14 : decode cX11_race 14 = .ok (.iconst (-1), 1) := by decide +kernel
theorem dX11_race_15 : decode cX11_race 15 = .ok (.putfield 105, 3) := by decide +kernel
theorem dX11_race_18 : decode cX11_race 18 = .ok (.aload_n 0, 1) := by decide +kernel
theorem dX11_race_19 : decode cX11_race 19 = .ok (.aload_n 0, 1) := by decide +kernel
theorem dX11_race_20 : decode cX11_race 20 = .ok (.getfield 65, 3) := by decide +kernel
theorem dX11_race_23 : decode cX11_race 23 = .ok (.aload_n 0, 1) := by decide +kernel
theorem dX11_race_24 : decode cX11_race 24 = .ok (.getfield 90, 3) := by decide +kernel
theorem dX11_race_27 : decode cX11_race 27 = .ok (.invokevirtual 472, 3) := by decide +kernel
theorem dX11_race_30 : decode cX11_race 30 = .ok (.iconst 0, 1) := by decide +kernel
theorem dX11_race_31 : decode cX11_race 31 = .ok (.istore_n 2, 1) := by decide +kernel
theorem dX11_race_32 : decode cX11_race 32 = .ok (.iconst (-1), 1) := by decide +kernel
theorem dX11_race_33 : decode cX11_race 33 = .ok (.istore_n 3, 1) := by decide +kernel
theorem dX11_race_34 : decode cX11_race 34 = .ok (.iconst 1, 1) := by decide +kernel
theorem dX11_race_35 : decode cX11_race 35 = .ok (.istore 4, 2) := by decide +kernel
theorem dX11_race_37 : decode cX11_race 37 = .ok (.iload 4, 2) := by decide +kernel
theorem dX11_race_39 : decode cX11_race 39 = .ok (.iload_n 1, 1) := by decide +kernel
theorem dX11_race_40 : decode cX11_race 40 = .ok (.if_icmp .gt 173, 3) := by decide +kernel
theorem dX11_race_43 : decode cX11_race 43 = .ok (.iload_n 3, 1) := by decide +kernel
theorem dX11_race_44 : decode cX11_race 44 = .ok (.iconst (-1), 1) := by decide +kernel
theorem dX11_race_45 : decode cX11_race 45 = .ok (.if_icmp .ne 168, 3) := by decide +kernel
theorem dX11_race_48 : decode cX11_race 48 = .ok (.aload_n 0, 1) := by decide +kernel
theorem dX11_race_49 : decode cX11_race 49 = .ok (.aload_n 0, 1) := by decide +kernel
theorem dX11_race_50 : decode cX11_race 50 = .ok (.getfield 65, 3) := by decide +kernel
theorem dX11_race_53 : decode cX11_race 53 = .ok (.aload_n 0, 1) := by decide +kernel
theorem dX11_race_54 : decode cX11_race 54 = .ok (.getfield 93, 3) := by decide +kernel
theorem dX11_race_57 : decode cX11_race 57 = .ok (.invokevirtual 472, 3) := by decide +kernel
theorem dX11_race_60 : decode cX11_race 60 = .ok (.aload_n 0, 1) := by decide +kernel
theorem dX11_race_61 : decode cX11_race 61 = .ok (.invokevirtual 463, 3) := by decide +kernel
theorem dX11_race_64 : decode cX11_race 64 = .ok (.iconst 0, 1) := by decide +kernel
theorem dX11_race_65 : decode cX11_race 65 = .ok (.istore 5, 2) := by decide +kernel
theorem dX11_race_67 : decode cX11_race 67 = .ok (.iconst 0, 1) := by decide +kernel
theorem dX11_race_68 : decode cX11_race 68 = .ok (.istore 6, 2) := by decide +kernel
theorem dX11_race_70 : decode cX11_race 70 = .ok (.iload 6, 2) := by decide +kernel
theorem dX11_race_72 : decode cX11_race 72 = .ok (.aload_n 0, 1) := by decide +kernel
theorem dX11_race_73 : decode cX11_race 73 = .ok (.iconst 0, 1) := by decide +kernel
theorem dX11_race_74 : decode cX11_race 74 = .ok (.invokevirtual 428, 3) := by decide +kernel
theorem dX11_race_77 : decode cX11_race 77 = .ok (.if_icmp .ge 45, 3) := by decide +kernel
theorem dX11_race_80 : decode cX11_race 80 = .ok (.aload_n 0, 1) := by decide +kernel
theorem dX11_race_81 : decode cX11_race 81 = .ok (.getfield 65, 3) := by decide +kernel
theorem dX11_race_84 : decode cX11_race 84 = .ok (.iconst 0, 1) := by decide +kernel
theorem dX11_race_85 : decode cX11_race 85 = .ok (.iload 6, 2) := by decide +kernel
theorem dX11_race_87 : decode cX11_race 87 = .ok (.iadd, 1) := by decide +kernel
theorem dX11_race_88 : decode cX11_race 88 = .ok (.iaload, 1) := by decide +kernel
theorem dX11_race_89 : decode cX11_race 89 = .ok (.aload_n 0, 1) := by decide +kernel
theorem dX11_race_90 : decode cX11_race 90 = .ok (.getfield 93, 3) := by decide +kernel
theorem dX11_race_93 : decode cX11_race 93 = .ok (.iconst 0, 1) := by decide +kernel
theorem dX11_race_94 : decode cX11_race 94 = .ok (.iload 6, 2) := by decide +kernel
theorem dX11_race_96 : decode cX11_race 96 = .ok (.iadd, 1) := by decide +kernel
theorem dX11_race_97 : decode cX11_race 97 = .ok (.iaload, 1) := by decide +kernel
theorem dX11_race_98 : decode cX11_race 98 = .ok (.if_icmp .ne 6, 3) := by decide +kernel
theorem dX11_race_101 : decode cX11_race 101 = .ok (.goto 15, 3) := by decide +kernel
theorem dX11_race_104 : decode cX11_race 104 = .ok (.aload_n 0, 1) := by decide +kernel
theorem dX11_race_105 : decode cX11_race 105 = .ok (.getfield 96, 3) := by decide +kernel
theorem dX11_race_108 : decode cX11_race 108 = .ok (.iload 5, 2) := by decide +kernel
theorem dX11_race_110 : decode cX11_race 110 = .ok (.iload 6, 2) := by decide +kernel
theorem dX11_race_112 : decode cX11_race 112 = .ok (.iastore, 1) := by decide +kernel
theorem dX11_race_113 : decode cX11_race 113 = .ok (.iinc 5 1, 3) := by decide +kernel
theorem dX11_race_116 : decode cX11_race 116 = .ok (.iinc 6 1, 3) := by decide +kernel
theorem dX11_race_119 : decode cX11_race 119 = .ok (.goto (-49), 3) := by decide +kernel
theorem dX11_race_122 : decode cX11_race 122 = .ok (.iload_n 2, 1) := by decide +kernel
theorem dX11_race_123 : decode cX11_race 123 = .ok (.ifCond .ne 9, 3) := by decide +kernel
theorem dX11_race_126 : decode cX11_race 126 = .ok (.iload 5, 2) := by decide +kernel
theorem dX11_race_128 : decode cX11_race 128 = .ok (.iconst 4, 1) := by decide +kernel
theorem dX11_race_129 : decode cX11_race 129 = .ok (.if_icmp .le 7, 3) := by decide +kernel
theorem dX11_race_132 : decode cX11_race 132 = .ok (.iconst 1, 1) := by decide +kernel
theorem dX11_race_133 : decode cX11_race 133 = .ok (.goto 4, 3) := by decide +kernel
theorem dX11_race_136 : decode cX11_race 136 = .ok (.iconst 0, 1) := by decide +kernel
theorem dX11_race_137 : decode cX11_race 137 = .ok (.istore_n 2, 1) := by decide +kernel
theorem dX11_race_138 : decode cX11_race 138 = .ok (.iload 5, 2) := by decide +kernel
theorem dX11_race_140 : decode cX11_race 140 = .ok (.iconst 2, 1) := by decide +kernel
theorem dX11_race_141 : decode cX11_race 141 = .ok (.if_icmp .lt 66, 3) := by decide +kernel
theorem dX11_race_144 : decode cX11_race 144 = .ok (.iload 5, 2) := by decide +kernel
theorem dX11_race_146 : decode cX11_race 146 = .ok (.iconst 4, 1) := by decide +kernel
theorem dX11_race_147 : decode cX11_race 147 = .ok (.if_icmp .gt 60, 3) := by decide +kernel
theorem dX11_race_150 : decode cX11_race 150 = .ok (.aload_n 0, 1) := by decide +kernel
theorem dX11_race_151 : decode cX11_race 151 = .ok (.iload 5, 2) := by decide +kernel
theorem dX11_race_153 : decode cX11_race 153 = .ok (.iload_n 1, 1) := by decide +kernel
theorem dX11_race_154 : decode cX11_race 154 = .ok (.iconst 5, 1) := by decide +kernel
theorem dX11_race_155 : decode cX11_race 155 = .ok (.iadd, 1) := by decide +kernel
theorem dX11_race_156 : decode cX11_race 156 = .ok (.iload 4, 2) := by decide +kernel
theorem dX11_race_158 : decode cX11_race 158 = .ok (.isub, 1) := by decide +kernel
theorem dX11_race_159 : decode cX11_race 159 = .ok (.invokevirtual 476, 3) := by decide +kernel
theorem dX11_race_162 : decode cX11_race 162 = .ok (.ifCond .ne 6, 3) := by decide +kernel
theorem dX11_race_165 : decode cX11_race 165 = .ok (.goto 42, 3) := by decide +kernel
theorem dX11_race_168 : decode cX11_race 168 = .ok (.iload 4, 2) := by decide +kernel
theorem dX11_race_170 : decode cX11_race 170 = .ok (.istore_n 3, 1) := by decide +kernel
theorem dX11_race_171 : decode cX11_race 171 = .ok (.aload_n 0, 1) := by decide +kernel
theorem dX11_race_172 : decode cX11_race 172 = .ok (.iload 5, 2) := by decide +kernel
theorem dX11_race_174 : decode cX11_race 174 = .ok (.putfield 478, 3) := by decide +kernel
theorem dX11_race_177 : decode cX11_race 177 = .ok (.iconst 0, 1) := by decide +kernel
theorem dX11_race_178 : decode cX11_race 178 = .ok (.istore 6, 2) := by decide +kernel
theorem dX11_race_180 : decode cX11_race 180 = .ok (.iload 6, 2) := by decide +kernel
theorem dX11_race_182 : decode cX11_race 182 = .ok (.iload 5, 2) := by decide +kernel
theorem dX11_race_184 : decode cX11_race 184 = .ok (.if_icmp .ge 23, 3) := by decide +kernel
theorem dX11_race_187 : decode cX11_race 187 = .ok (.aload_n 0, 1) := by decide +kernel
theorem dX11_race_188 : decode cX11_race 188 = .ok (.getfield 108, 3) := by decide +kernel
theorem dX11_race_191 : decode cX11_race 191 = .ok (.iload 6, 2) := by decide +kernel
theorem dX11_race_193 : decode cX11_race 193 = .ok (.aload_n 0, 1) := by decide +kernel
theorem dX11_race_194 : decode cX11_race 194 = .ok (.getfield 96, 3) := by decide +kernel
theorem dX11_race_197 : decode cX11_race 197 = .ok (.iload 6, 2) := by decide +kernel
theorem dX11_race_199 : decode cX11_race 199 = .ok (.iaload, 1) := by decide +kernel
theorem dX11_race_200 : decode cX11_race 200 = .ok (.iastore, 1) := by decide +kernel
theorem dX11_race_201 : decode cX11_race 201 = .ok (.iinc 6 1, 3) := by decide +kernel
theorem dX11_race_204 : decode cX11_race 204 = .ok (.goto (-24), 3) := by decide +kernel
theorem dX11_race_207 : decode cX11_race 207 = .ok (.iinc 4 1, 3) := by decide +kernel
theorem dX11_race_210 : decode cX11_race 210 = .ok (.goto (-173), 3) := by decide +kernel
theorem dX11_race_213 : decode cX11_race 213 = .ok (.aload_n 0, 1) := by decide +kernel
theorem dX11_race_214 : decode cX11_race 214 = .ok (.aload_n 0, 1) := by decide +kernel
theorem dX11_race_215 : decode cX11_race 215 = .ok (.getfield 90, 3) := by decide +kernel
theorem dX11_race_218 : decode cX11_race 218 = .ok (.aload_n 0, 1) := by decide +kernel
theorem dX11_race_219 : decode cX11_race 219 = .ok (.getfield 65, 3) := by decide +kernel
theorem dX11_race_222 : decode cX11_race 222 = .ok (.invokevirtual 472, 3) := by decide +kernel
theorem dX11_race_225 : decode cX11_race 225 = .ok (.aload_n 0, 1) := by decide +kernel
theorem dX11_race_226 : decode cX11_race 226 = .ok (.iload_n 3, 1) := by decide +kernel
theorem dX11_race_227 : decode cX11_race 227 = .ok (.putfield 105, 3) := by decide +kernel
theorem dX11_race_230 : decode cX11_race 230 = .ok (.iload_n 3, 1) := by decide +kernel
theorem dX11_race_231 : decode cX11_race 231 = .ok (.iconst (-1), 1) := by decide +kernel
theorem dX11_race_232 : decode cX11_race 232 = .ok (.if_icmp .eq 7, 3) := by decide +kernel
theorem dX11_race_235 : decode cX11_race 235 = .ok (.iconst 1, 1) := by decide +kernel
theorem dX11_race_236 : decode cX11_race 236 = .ok (.goto 12, 3) := by decide +kernel
theorem dX11_race_239 : decode cX11_race 239 = .ok (.iload_n 2, 1) := by decide +kernel
theorem dX11_race_240 : decode cX11_race 240 = .ok (.ifCond .eq 7, 3) := by decide +kernel
theorem dX11_race_243 : decode cX11_race 243 = .ok (.iconst (-1), 1) := by decide +kernel
theorem dX11_race_244 : decode cX11_race 244 = .ok (.goto 4, 3) := by decide +kernel
theorem dX11_race_247 : decode cX11_race 247 = .ok (.iconst 0, 1) := by decide +kernel
theorem dX11_race_248 : decode cX11_race 248 = .ok (.ireturn, 1) := by decide +kernel
theorem dX11_parts__0 : decode cX11_parts_ 0 = .ok (.aload_n 0, 1) := by decide +kernel
theorem dX11_parts__1 : decode cX11_parts_ 1 = .ok (.aload_n 0, 1) := by decide +kernel
theorem dX11_parts__2 : decode cX11_parts_ 2 = .ok (.getfield 65, 3) := by decide +kernel
theorem dX11_parts__5 : decode cX11_parts_ 5 = .ok (.aload_n 0, 1) := by decide +kernel
theorem dX11_parts__6 : decode cX11_parts_ 6 = .ok (.getfield 111, 3) := by decide +kernel
theorem dX11_parts__9 : decode cX11_parts_ 9 = .ok (.invokevirtual 472, 3) := by decide +kernel
theorem dX11_parts__12 : decode cX11_parts_ 12 = .ok (.iload_n 1, 1) := by decide +kernel
theorem dX11_parts__13 : decode cX11_parts_ 13 = .ok (.iconst 2, 1) := by decide +kernel
theorem dX11_parts__14 : decode cX11_parts_ 14 = .ok (.if_icmp .ne 7, 3) := by decide +kernel
theorem dX11_parts__17 : decode cX11_parts_ 17 = .ok (.iconst 2, 1) := by decide +kernel
theorem dX11_parts__18 : decode cX11_parts_ 18 = .ok (.goto 15, 3) := by decide +kernel
theorem dX11_parts__21 : decode cX11_parts_ 21 = .ok (.iload_n 1, 1) := by decide +kernel
theorem dX11_parts__22 : decode cX11_parts_ 22 = .ok (.iconst 3, 1) := by decide +kernel
theorem dX11_parts__23 : decode cX11_parts_ 23 = .ok (.if_icmp .ne 8, 3) := by decide +kernel
theorem dX11_parts__26 : decode cX11_parts_ 26 = .ok (.bipush 6, 2) := by decide +kernel
theorem dX11_parts__28 : decode cX11_parts_ 28 = .ok (.goto 5, 3) := by decide +kernel
theorem dX11_parts__31 : decode cX11_parts_ 31 = .ok (.bipush 24, 2) := by decide +kernel
theorem dX11_parts__33 : decode cX11_parts_ 33 = .ok (.istore_n 3, 1) := by decide +kernel
theorem dX11_parts__34 : decode cX11_parts_ 34 = .ok (.iconst 0, 1) := by decide +kernel
theorem dX11_parts__35 : decode cX11_parts_ 35 = .ok (.istore 4, 2) := by decide +kernel
theorem dX11_parts__37 : decode cX11_parts_ 37 = .ok (.iconst 0, 1) := by decide +kernel
theorem dX11_parts__38 : decode cX11_parts_ 38 = .ok (.istore 5, 2) := by decide +kernel
theorem dX11_parts__40 : decode cX11_parts_ 40 = .ok (.iload 5, 2) := by decide +kernel
theorem dX11_parts__42 : decode cX11_parts_ 42 = .ok (.iload_n 3, 1) := by decide +kernel
theorem dX11_parts__43 : decode cX11_parts_ 43 = .ok (.if_icmp .ge 173, 3) := by decide +kernel
theorem dX11_parts__46 : decode cX11_parts_ 46 = .ok (.iload 4, 2) := by decide +kernel
theorem dX11_parts__48 : decode cX11_parts_ 48 = .ok (.ifCond .ne 168, 3) := by decide +kernel
theorem dX11_parts__51 : decode cX11_parts_ 51 = .ok (.aload_n 0, 1) := by decide +kernel
theorem dX11_parts__52 : decode cX11_parts_ 52 = .ok (.iload 5, 2) := by decide +kernel
theorem dX11_parts__54 : decode cX11_parts_ 54 = .ok (.iload_n 1, 1) := by decide +kernel
theorem dX11_parts__55 : decode cX11_parts_ 55 = .ok (.invokevirtual 481, 3) := by decide +kernel
theorem dX11_parts__58 : decode cX11_parts_ 58 = .ok (.aload_n 0, 1) := by decide +kernel
theorem dX11_parts__59 : decode cX11_parts_ 59 = .ok (.aload_n 0, 1) := by decide +kernel
theorem dX11_parts__60 : decode cX11_parts_ 60 = .ok (.getfield 93, 3) := by decide +kernel
theorem dX11_parts__63 : decode cX11_parts_ 63 = .ok (.aload_n 0, 1) := by decide +kernel
theorem dX11_parts__64 : decode cX11_parts_ 64 = .ok (.getfield 65, 3) := by decide +kernel
theorem dX11_parts__67 : decode cX11_parts_ 67 = .ok (.invokevirtual 472, 3) := by decide +kernel
theorem dX11_parts__70 : decode cX11_parts_ 70 = .ok (.iconst 0, 1) := by decide +kernel
theorem dX11_parts__71 : decode cX11_parts_ 71 = .ok (.istore 6, 2) := by decide +kernel
theorem dX11_parts__73 : decode cX11_parts_ 73 = .ok (.iload 6, 2) := by decide +kernel
theorem dX11_parts__75 : decode cX11_parts_ 75 = .ok (.iload_n 2, 1) := by decide +kernel
theorem dX11_parts__76 : decode cX11_parts_ 76 = .ok (.if_icmp .ge 63, 3) := by decide +kernel
theorem dX11_parts__79 : decode cX11_parts_ 79 = .ok (.iconst 0, 1) := by decide +kernel
theorem dX11_parts__80 : decode cX11_parts_ 80 = .ok (.istore 7, 2) := by decide +kernel
theorem dX11_parts__82 : decode cX11_parts_ 82 = .ok (.iload 7, 2) := by decide +kernel
theorem dX11_parts__84 : decode cX11_parts_ 84 = .ok (.iload_n 1, 1) := by decide +kernel
theorem dX11_parts__85 : decode cX11_parts_ 85 = .ok (.if_icmp .ge 44, 3) := by decide +kernel
theorem dX11_parts__88 : decode cX11_parts_ 88 = .ok (.aload_n 0, 1) := by decide +kernel
theorem dX11_parts__89 : decode cX11_parts_ 89 = .ok (.getfield 83, 3) := by decide +kernel
theorem dX11_parts__92 : decode cX11_parts_ 92 = .ok (.aload_n 0, 1) := by decide +kernel
theorem dX11_parts__93 : decode cX11_parts_ 93 = .ok (.getfield 99, 3) := by decide +kernel
theorem dX11_parts__96 : decode cX11_parts_ 96 = .ok (.iload 7, 2) := by decide +kernel
theorem dX11_parts__98 : decode cX11_parts_ 98 = .ok (.iaload, 1) := by decide +kernel
theorem dX11_parts__99 : decode cX11_parts_ 99 = .ok (.iload 7, 2) := by decide +kernel
theorem dX11_parts__101 : decode cX11_parts_ 101 = .ok (.iload 6, 2) := by decide +kernel
theorem dX11_parts__103 : decode cX11_parts_ 103 = .ok (.if_icmp .le 7, 3) := by decide +kernel
theorem dX11_parts__106 : decode cX11_parts_ 106 = .ok (.iconst 1, 1) := by decide +kernel
theorem dX11_parts__107 : decode cX11_parts_ 107 = .ok (.goto 15, 3) := by decide +kernel
theorem dX11_parts__110 : decode cX11_parts_ 110 = .ok (.iload 7, 2) := by decide +kernel
theorem dX11_parts__112 : decode cX11_parts_ 112 = .ok (.iload 6, 2) := by decide +kernel
theorem dX11_parts__114 : decode cX11_parts_ 114 = .ok (.if_icmp .ne 7, 3) := by decide +kernel
theorem dX11_parts__117 : decode cX11_parts_ 117 = .ok (.iconst 2, 1) := by decide +kernel
theorem dX11_parts__118 : decode cX11_parts_ 118 = .ok (.goto 4, 3) := by decide +kernel
theorem dX11_parts__121 : decode cX11_parts_ 121 = .ok (.iconst 0, 1) := by decide +kernel
theorem dX11_parts__122 : decode cX11_parts_ 122 = .ok (.iastore, 1) := by decide +kernel
theorem dX11_parts__123 : decode cX11_parts_ 123 = .ok (.iinc 7 1, 3) := by decide +kernel
theorem dX11_parts__126 : decode cX11_parts_ 126 = .ok (.goto (-44), 3) := by decide +kernel
theorem dX11_parts__129 : decode cX11_parts_ 129 = .ok (.aload_n 0, 1) := by decide +kernel
theorem dX11_parts__130 : decode cX11_parts_ 130 = .ok (.invokevirtual 463, 3) := by decide +kernel
theorem dX11_parts__133 : decode cX11_parts_ 133 = .ok (.iinc 6 1, 3) := by decide +kernel
theorem dX11_parts__136 : decode cX11_parts_ 136 = .ok (.goto (-63), 3) := by decide +kernel
theorem dX11_parts__139 : decode cX11_parts_ 139 = .ok (.iconst 0, 1) := by decide +kernel
theorem dX11_parts__140 : decode cX11_parts_ 140 = .ok (.istore 6, 2) := by decide +kernel
theorem dX11_parts__142 : decode cX11_parts_ 142 = .ok (.iload 6, 2) := by decide +kernel
theorem dX11_parts__144 : decode cX11_parts_ 144 = .ok (.aload_n 0, 1) := by decide +kernel
theorem dX11_parts__145 : decode cX11_parts_ 145 = .ok (.iconst 0, 1) := by decide +kernel
theorem dX11_parts__146 : decode cX11_parts_ 146 = .ok (.invokevirtual 428, 3) := by decide +kernel
theorem dX11_parts__149 : decode cX11_parts_ 149 = .ok (.if_icmp .ge 61, 3) := by decide +kernel
theorem dX11_parts__152 : decode cX11_parts_ 152 = .ok (.iload 4, 2) := by decide +kernel
theorem dX11_parts__154 : decode cX11_parts_ 154 = .ok (.ifCond .ne 27, 3) := by decide +kernel
theorem dX11_parts__157 : decode cX11_parts_ 157 = .ok (.iload 5, 2) := by decide +kernel
theorem dX11_parts__159 : decode cX11_parts_ 159 = .ok (.ifCond .le 26, 3) := by decide +kernel
theorem dX11_parts__162 : decode cX11_parts_ 162 = .ok (.aload_n 0, 1) := by decide +kernel
theorem dX11_parts__163 : decode cX11_parts_ 163 = .ok (.getfield 102, 3) := by decide +kernel
theorem dX11_parts__166 : decode cX11_parts_ 166 = .ok (.iload 6, 2) := by decide +kernel
theorem dX11_parts__168 : decode cX11_parts_ 168 = .ok (.iaload, 1) := by decide +kernel
theorem dX11_parts__169 : decode cX11_parts_ 169 = .ok (.aload_n 0, 1) := by decide +kernel
theorem dX11_parts__170 : decode cX11_parts_ 170 = .ok (.getfield 65, 3) := by decide +kernel
theorem dX11_parts__173 : decode cX11_parts_ 173 = .ok (.iconst 0, 1) := by decide +kernel
theorem dX11_parts__174 : decode cX11_parts_ 174 = .ok (.iload 6, 2) := by decide +kernel
theorem dX11_parts__176 : decode cX11_parts_ 176 = .ok (.iadd, 1) := by decide +kernel
theorem dX11_parts__177 : decode cX11_parts_ 177 = .ok (.iaload, 1) := by decide +kernel
theorem dX11_parts__178 : decode cX11_parts_ 178 = .ok (.if_icmp .eq 7, 3) := by decide +kernel
theorem dX11_parts__181 : decode cX11_parts_ 181 = .ok (.iconst 1, 1) := by decide +kernel
theorem dX11_parts__182 : decode cX11_parts_ 182 = .ok (.goto 4, 3) := by decide +kernel
theorem dX11_parts__185 : decode cX11_parts_ 185 = .ok (.iconst 0, 1) := by decide +kernel
theorem dX11_parts__186 : decode cX11_parts_ 186 = .ok (.istore 4, 2) := by decide +kernel
theorem dX11_parts__188 : decode cX11_parts_ 188 = .ok (.aload_n 0, 1) := by decide +kernel
theorem dX11_parts__189 : decode cX11_parts_ 189 = .ok (.getfield 102, 3) := by decide +kernel
theorem dX11_parts__192 : decode cX11_parts_ 192 = .ok (.iload 6, 2) := by decide +kernel
theorem dX11_parts__194 : decode cX11_parts_ 194 = .ok (.aload_n 0, 1) := by decide +kernel
theorem dX11_parts__195 : decode cX11_parts_ 195 = .ok (.getfield 65, 3) := by decide +kernel
theorem dX11_parts__198 : decode cX11_parts_ 198 = .ok (.iconst 0, 1) := by decide +kernel
theorem dX11_parts__199 : decode cX11_parts_ 199 = .ok (.iload 6, 2) := by decide +kernel
theorem dX11_parts__201 : decode cX11_parts_ 201 = .ok (.iadd, 1) := by decide +kernel
theorem dX11_parts__202 : decode cX11_parts_ 202 = .ok (.iaload, 1) := by decide +kernel
theorem dX11_parts__203 : decode cX11_parts_ 203 = .ok (.iastore, 1) := by decide +kernel
theorem dX11_parts__204 : decode cX11_parts_ 204 = .ok (.iinc 6 1, 3) := by decide +kernel
theorem dX11_parts__207 : decode cX11_parts_ 207 = .ok (.goto (-65), 3) := by decide +kernel
theorem dX11_parts__210 : decode cX11_parts_ 210 = .ok (.iinc 5 1, 3) := by decide +kernel
theorem dX11_parts__213 : decode cX11_parts_ 213 = .ok (.goto (-173), 3) := by decide +kernel
theorem dX11_parts__216 : decode cX11_parts_ 216 = .ok (.iconst 0, 1) := by decide +kernel
theorem dX11_parts__217 : decode cX11_parts_ 217 = .ok (.istore 5, 2) := by decide +kernel
theorem dX11_parts__219 : decode cX11_parts_ 219 = .ok (.iload 5, 2) := by decide +kernel
theorem dX11_parts__221 : decode cX11_parts_ 221 = .ok (.bipush 40, 2) := by decide +kernel
theorem dX11_parts__223 : decode cX11_parts_ 223 = .ok (.if_icmp .ge 17, 3) := by decide +kernel
theorem dX11_parts__226 : decode cX11_parts_ 226 = .ok (.aload_n 0, 1) := by decide +kernel
theorem dX11_parts__227 : decode cX11_parts_ 227 = .ok (.getfield 83, 3) := by decide +kernel
theorem dX11_parts__230 : decode cX11_parts_ 230 = .ok (.iload 5, 2) := by decide +kernel
theorem dX11_parts__232 : decode cX11_parts_ 232 = .ok (.iconst 0, 1) := by decide +kernel
theorem dX11_parts__233 : decode cX11_parts_ 233 = .ok (.iastore, 1) := by decide +kernel
theorem dX11_parts__234 : decode cX11_parts_ 234 = .ok (.iinc 5 1, 3) := by decide +kernel
theorem dX11_parts__237 : decode cX11_parts_ 237 = .ok (.goto (-18), 3) := by decide +kernel
theorem dX11_parts__240 : decode cX11_parts_ 240 = .ok (.aload_n 0, 1) := by decide +kernel
theorem dX11_parts__241 : decode cX11_parts_ 241 = .ok (.aload_n 0, 1) := by decide +kernel
theorem dX11_parts__242 : decode cX11_parts_ 242 = .ok (.getfield 111, 3) := by decide +kernel
theorem dX11_parts__245 : decode cX11_parts_ 245 = .ok (.aload_n 0, 1) := by decide +kernel
theorem dX11_parts__246 : decode cX11_parts_ 246 = .ok (.getfield 65, 3) := by decide +kernel
theorem dX11_parts__249 : decode cX11_parts_ 249 = .ok (.invokevirtual 472, 3) := by decide +kernel
theorem dX11_parts__252 : decode cX11_parts_ 252 = .ok (.iload 4, 2) := by decide +kernel
theorem dX11_parts__254 : decode cX11_parts_ 254 = .ok (.ireturn, 1) := by decide +kernel
theorem dX11_arrange_0 : decode cX11_arrange 0 = .ok (.iload_n 1, 1) := by decide +kernel
theorem dX11_arrange_1 : decode cX11_arrange 1 = .ok (.istore_n 3, 1) := by decide +kernel
theorem dX11_arrange_2 : decode cX11_arrange 2 = .ok (.iconst 0, 1) := by decide +kernel
theorem dX11_arrange_3 : decode cX11_arrange 3 = .ok (.istore 4, 2) := by decide +kernel
theorem dX11_arrange_5 : decode cX11_arrange 5 = .ok (.iload 4, 2) := by decide +kernel
theorem dX11_arrange_7 : decode cX11_arrange 7 = .ok (.iload_n 2, 1) := by decide +kernel
theorem dX11_arrange_8 : decode cX11_arrange 8 = .ok (.if_icmp .ge 17, 3) := by decide +kernel
theorem dX11_arrange_11 : decode cX11_arrange 11 = .ok (.aload_n 0, 1) := by decide +kernel
theorem dX11_arrange_12 : decode cX11_arrange 12 = .ok (.getfield 114, 3) := by decide +kernel
theorem dX11_arrange_15 : decode cX11_arrange 15 = .ok (.iload 4, 2) := by decide +kernel
theorem dX11_arrange_17 : decode cX11_arrange 17 = .ok (.iconst 0, 1) := by decide +kernel
theorem dX11_arrange_18 : decode cX11_arrange 18 = .ok (.bastore, 1) := by decide +kernel
theorem dX11_arrange_19 : decode cX11_arrange 19 = .ok (.iinc 4 1, 3) := by decide +kernel
theorem dX11_arrange_22 : decode cX11_arrange 22 = .ok (.goto (-17), 3) := by decide +kernel
theorem dX11_arrange_25 : decode cX11_arrange 25 = .ok (.iconst 0, 1) := by decide +kernel
theorem dX11_arrange_26 : decode cX11_arrange 26 = .ok (.istore 4, 2) := by decide +kernel
theorem dX11_arrange_28 : decode cX11_arrange 28 = .ok (.iload 4, 2) := by decide +kernel
theorem dX11_arrange_30 : decode cX11_arrange 30 = .ok (.iload_n 2, 1) := by decide +kernel
theorem dX11_arrange_31 : decode cX11_arrange 31 = .ok (.if_icmp .ge 107, 3) := by decide +kernel
theorem dX11_arrange_34 : decode cX11_arrange 34 = .ok (.iload_n 2, 1) := by decide +kernel
theorem dX11_arrange_35 : decode cX11_arrange 35 = .ok (.iload 4, 2) := by decide +kernel
theorem dX11_arrange_37 : decode cX11_arrange 37 = .ok (.isub, 1) := by decide +kernel
theorem dX11_arrange_38 : decode cX11_arrange 38 = .ok (.iconst 4, 1) := by decide +kernel
theorem dX11_arrange_39 : decode cX11_arrange 39 = .ok (.if_icmp .ne 8, 3) := by decide +kernel
theorem dX11_arrange_42 : decode cX11_arrange 42 = .ok (.bipush 6, 2) := by decide +kernel
theorem dX11_arrange_44 : decode cX11_arrange 44 = .ok (.goto 16, 3) := by decide +kernel
theorem dX11_arrange_47 : decode cX11_arrange 47 = .ok (.iload_n 2, 1) := by decide +kernel
theorem dX11_arrange_48 : decode cX11_arrange 48 = .ok (.iload 4, 2) := by decide +kernel
theorem dX11_arrange_50 : decode cX11_arrange 50 = .ok (.isub, 1) := by decide +kernel
theorem dX11_arrange_51 : decode cX11_arrange 51 = .ok (.iconst 3, 1) := by decide +kernel
theorem dX11_arrange_52 : decode cX11_arrange 52 = .ok (.if_icmp .ne 7, 3) := by decide +kernel
theorem dX11_arrange_55 : decode cX11_arrange 55 = .ok (.iconst 2, 1) := by decide +kernel
theorem dX11_arrange_56 : decode cX11_arrange 56 = .ok (.goto 4, 3) := by decide +kernel
theorem dX11_arrange_59 : decode cX11_arrange 59 = .ok (.iconst 1, 1) := by decide +kernel
theorem dX11_arrange_60 : decode cX11_arrange 60 = .ok (.istore 5, 2) := by decide +kernel
theorem dX11_arrange_62 : decode cX11_arrange 62 = .ok (.iload_n 3, 1) := by decide +kernel
theorem dX11_arrange_63 : decode cX11_arrange 63 = .ok (.iload 5, 2) := by decide +kernel
theorem dX11_arrange_65 : decode cX11_arrange 65 = .ok (.idiv, 1) := by decide +kernel
theorem dX11_arrange_66 : decode cX11_arrange 66 = .ok (.istore 6, 2) := by decide +kernel
theorem dX11_arrange_68 : decode cX11_arrange 68 = .ok (.iload_n 3, 1) := by decide +kernel
theorem dX11_arrange_69 : decode cX11_arrange 69 = .ok (.iload 5, 2) := by decide +kernel
theorem dX11_arrange_71 : decode cX11_arrange 71 = .ok (.irem, 1) := by decide +kernel
theorem dX11_arrange_72 : decode cX11_arrange 72 = .ok (.istore_n 3, 1) := by decide +kernel
theorem dX11_arrange_73 : decode cX11_arrange 73 = .ok (.iconst 0, 1) := by decide +kernel
theorem dX11_arrange_74 : decode cX11_arrange 74 = .ok (.istore 7, 2) := by decide +kernel
theorem dX11_arrange_76 : decode cX11_arrange 76 = .ok (.aload_n 0, 1) := by decide +kernel
theorem dX11_arrange_77 : decode cX11_arrange 77 = .ok (.getfield 114, 3) := by decide +kernel
theorem dX11_arrange_80 : decode cX11_arrange 80 = .ok (.iload 7, 2) := by decide +kernel
theorem dX11_arrange_82 : decode cX11_arrange 82 = .ok (.baload, 1) := by decide +kernel
theorem dX11_arrange_83 : decode cX11_arrange 83 = .ok (.ifCond .ne 8, 3) := by decide +kernel
theorem dX11_arrange_86 : decode cX11_arrange 86 = .ok (.iload 6, 2) := by decide +kernel
theorem dX11_arrange_88 : decode cX11_arrange 88 = .ok (.ifCond .le 22, 3) := by decide +kernel
theorem dX11_arrange_91 : decode cX11_arrange 91 = .ok (.aload_n 0, 1) := by decide +kernel
theorem dX11_arrange_92 : decode cX11_arrange 92 = .ok (.getfield 114, 3) := by decide +kernel
theorem dX11_arrange_95 : decode cX11_arrange 95 = .ok (.iload 7, 2) := by decide +kernel
theorem dX11_arrange_97 : decode cX11_arrange 97 = .ok (.baload, 1) := by decide +kernel
theorem dX11_arrange_98 : decode cX11_arrange 98 = .ok (.ifCond .ne 6, 3) := by decide +kernel
theorem dX11_arrange_101 : decode cX11_arrange 101 = .ok (.iinc 6 (-1), 3) := by decide +kernel
theorem dX11_arrange_104 : decode cX11_arrange 104 = .ok (.iinc 7 1, 3) := by decide +kernel
theorem dX11_arrange_107 : decode cX11_arrange 107 = .ok (.goto (-31), 3) := by decide +kernel
theorem dX11_arrange_110 : decode cX11_arrange 110 = .ok (.aload_n 0, 1) := by decide +kernel
theorem dX11_arrange_111 : decode cX11_arrange 111 = .ok (.getfield 114, 3) := by decide +kernel
theorem dX11_arrange_114 : decode cX11_arrange 114 = .ok (.iload 7, 2) := by decide +kernel
theorem dX11_arrange_116 : decode cX11_arrange 116 = .ok (.iconst 1, 1) := by decide +kernel
theorem dX11_arrange_117 : decode cX11_arrange 117 = .ok (.bastore, 1) := by decide +kernel
theorem dX11_arrange_118 : decode cX11_arrange 118 = .ok (.aload_n 0, 1) := by decide +kernel
theorem dX11_arrange_119 : decode cX11_arrange 119 = .ok (.getfield 99, 3) := by decide +kernel
theorem dX11_arrange_122 : decode cX11_arrange 122 = .ok (.iload 4, 2) := by decide +kernel
theorem dX11_arrange_124 : decode cX11_arrange 124 = .ok (.aload_n 0, 1) := by decide +kernel
theorem dX11_arrange_125 : decode cX11_arrange 125 = .ok (.getfield 96, 3) := by decide +kernel
theorem dX11_arrange_128 : decode cX11_arrange 128 = .ok (.iload 7, 2) := by decide +kernel
theorem dX11_arrange_130 : decode cX11_arrange 130 = .ok (.iaload, 1) := by decide +kernel
theorem dX11_arrange_131 : decode cX11_arrange 131 = .ok (.iastore, 1) := by decide +kernel
theorem dX11_arrange_132 : decode cX11_arrange 132 = .ok (.iinc 4 1, 3) := by decide +kernel
theorem dX11_arrange_135 : decode cX11_arrange 135 = .ok (.goto (-107), 3) := by decide +kernel
theorem dX11_arrange_138 : decode cX11_arrange 138 = .ok (.return_, 1) := by decide +kernel
theorem dX11_raced_0 : decode cX11_raced 0 = .ok (.aload_n 0, 1) := by decide +kernel
theorem dX11_raced_1 : decode cX11_raced 1 = .ok (.getfield 105, 3) := by decide +kernel
theorem dX11_raced_4 : decode cX11_raced 4 = .ok (.iconst (-1), 1) := by decide +kernel
theorem dX11_raced_5 : decode cX11_raced 5 = .ok (.if_icmp .eq 7, 3) := by decide +kernel
theorem dX11_raced_8 : decode cX11_raced 8 = .ok (.iload_n 1, 1) := by decide +kernel
theorem dX11_raced_9 : decode cX11_raced 9 = .ok (.ifCond .ge 5, 3) := by decide +kernel
theorem dX11_raced_12 : decode cX11_raced 12 = .ok (.iconst (-1), 1) := by decide +kernel
theorem dX11_raced_13 : decode cX11_raced 13 = .ok (.ireturn, 1) := by decide +kernel
theorem dX11_raced_14 : decode cX11_raced 14 = .ok (.iload_n 1, 1) := by decide +kernel
theorem dX11_raced_15 : decode cX11_raced 15 = .ok (.ifCond .ne 10, 3) := by decide +kernel
theorem dX11_raced_18 : decode cX11_raced 18 = .ok (.aload_n 0, 1) := by decide +kernel
theorem dX11_raced_19 : decode cX11_raced 19 = .ok (.getfield 105, 3) := by decide +kernel
theorem dX11_raced_22 : decode cX11_raced 22 = .ok (.goto 37, 3) := by decide +kernel
theorem dX11_raced_25 : decode cX11_raced 25 = .ok (.iload_n 1, 1) := by decide +kernel
theorem dX11_raced_26 : decode cX11_raced 26 = .ok (.iconst 1, 1) := by decide +kernel
theorem dX11_raced_27 : decode cX11_raced 27 = .ok (.if_icmp .ne 10, 3) := by decide +kernel
theorem dX11_raced_30 : decode cX11_raced 30 = .ok (.aload_n 0, 1) := by decide +kernel
theorem dX11_raced_31 : decode cX11_raced 31 = .ok (.getfield 478, 3) := by decide +kernel
theorem dX11_raced_34 : decode cX11_raced 34 = .ok (.goto 25, 3) := by decide +kernel
theorem dX11_raced_37 : decode cX11_raced 37 = .ok (.iload_n 1, 1) := by decide +kernel
theorem dX11_raced_38 : decode cX11_raced 38 = .ok (.iconst 2, 1) := by decide +kernel
theorem dX11_raced_39 : decode cX11_raced 39 = .ok (.isub, 1) := by decide +kernel
theorem dX11_raced_40 : decode cX11_raced 40 = .ok (.aload_n 0, 1) := by decide +kernel
theorem dX11_raced_41 : decode cX11_raced 41 = .ok (.getfield 478, 3) := by decide +kernel
theorem dX11_raced_44 : decode cX11_raced 44 = .ok (.if_icmp .ge 14, 3) := by decide +kernel
theorem dX11_raced_47 : decode cX11_raced 47 = .ok (.aload_n 0, 1) := by decide +kernel
theorem dX11_raced_48 : decode cX11_raced 48 = .ok (.getfield 108, 3) := by decide +kernel
theorem dX11_raced_51 : decode cX11_raced 51 = .ok (.iload_n 1, 1) := by decide +kernel
theorem dX11_raced_52 : decode cX11_raced 52 = .ok (.iconst 2, 1) := by decide +kernel
theorem dX11_raced_53 : decode cX11_raced 53 = .ok (.isub, 1) := by decide +kernel
theorem dX11_raced_54 : decode cX11_raced 54 = .ok (.iaload, 1) := by decide +kernel
theorem dX11_raced_55 : decode cX11_raced 55 = .ok (.goto 4, 3) := by decide +kernel
theorem dX11_raced_58 : decode cX11_raced 58 = .ok (.iconst (-1), 1) := by decide +kernel
theorem dX11_raced_59 : decode cX11_raced 59 = .ok (.ireturn, 1) := by decide +kernel
theorem dJ13_bitCount_95d88_0 : decode cJ13_bitCount_95d88 0 = .ok (.lload_n 0, 1) := by decide +kernel
theorem dJ13_bitCount_95d88_1 : decode cJ13_bitCount_95d88 1 = .ok (.lload_n 0, 1) := by decide +kernel
theorem dJ13_bitCount_95d88_2 : decode cJ13_bitCount_95d88 2 = .ok (.iconst 1, 1) := by decide +kernel
theorem dJ13_bitCount_95d88_3 : decode cJ13_bitCount_95d88 3 = .ok (.lushr, 1) := by decide +kernel
theorem dJ13_bitCount_95d88_4 : decode cJ13_bitCount_95d88 4 = .ok (.ldc2_w 314, 3) := by decide +kernel
theorem dJ13_bitCount_95d88_7 : decode cJ13_bitCount_95d88 7 = .ok (.land, 1) := by decide +kernel
theorem dJ13_bitCount_95d88_8 : decode cJ13_bitCount_95d88 8 = .ok (.lsub, 1) := by decide +kernel
theorem dJ13_bitCount_95d88_9 : decode cJ13_bitCount_95d88 9 = .ok (.lstore_n 0, 1) := by decide +kernel
theorem dJ13_bitCount_95d88_10 : decode cJ13_bitCount_95d88 10 = .ok (.lload_n 0, 1) := by decide +kernel
theorem dJ13_bitCount_95d88_11 : decode cJ13_bitCount_95d88 11 = .ok (.ldc2_w 316, 3) := by decide +kernel
theorem dJ13_bitCount_95d88_14 : decode cJ13_bitCount_95d88 14 = .ok (.land, 1) := by decide +kernel
theorem dJ13_bitCount_95d88_15 : decode cJ13_bitCount_95d88 15 = .ok (.lload_n 0, 1) := by decide +kernel
theorem dJ13_bitCount_95d88_16 : decode cJ13_bitCount_95d88 16 = .ok (.iconst 2, 1) := by decide +kernel
theorem dJ13_bitCount_95d88_17 : decode cJ13_bitCount_95d88 17 = .ok (.lushr, 1) := by decide +kernel
theorem dJ13_bitCount_95d88_18 : decode cJ13_bitCount_95d88 18 = .ok (.ldc2_w 316, 3) := by decide +kernel
theorem dJ13_bitCount_95d88_21 : decode cJ13_bitCount_95d88 21 = .ok (.land, 1) := by decide +kernel
theorem dJ13_bitCount_95d88_22 : decode cJ13_bitCount_95d88 22 = .ok (.ladd, 1) := by decide +kernel
theorem dJ13_bitCount_95d88_23 : decode cJ13_bitCount_95d88 23 = .ok (.lstore_n 0, 1) := by decide +kernel
theorem dJ13_bitCount_95d88_24 : decode cJ13_bitCount_95d88 24 = .ok (.lload_n 0, 1) := by decide +kernel
theorem dJ13_bitCount_95d88_25 : decode cJ13_bitCount_95d88 25 = .ok (.lload_n 0, 1) := by decide +kernel
theorem dJ13_bitCount_95d88_26 : decode cJ13_bitCount_95d88 26 = .ok (.iconst 4, 1) := by decide +kernel
theorem dJ13_bitCount_95d88_27 : decode cJ13_bitCount_95d88 27 = .ok (.lushr, 1) := by decide +kernel
theorem dJ13_bitCount_95d88_28 : decode cJ13_bitCount_95d88 28 = .ok (.ladd, 1) := by decide +kernel
theorem dJ13_bitCount_95d88_29 : decode cJ13_bitCount_95d88 29 = .ok (.ldc2_w 318, 3) := by decide +kernel
theorem dJ13_bitCount_95d88_32 : decode cJ13_bitCount_95d88 32 = .ok (.land, 1) := by decide +kernel
theorem dJ13_bitCount_95d88_33 : decode cJ13_bitCount_95d88 33 = .ok (.lstore_n 0, 1) := by decide +kernel
theorem dJ13_bitCount_95d88_34 : decode cJ13_bitCount_95d88 34 = .ok (.lload_n 0, 1) := by decide +kernel
theorem dJ13_bitCount_95d88_35 : decode cJ13_bitCount_95d88 35 = .ok (.lload_n 0, 1) := by decide +kernel
theorem dJ13_bitCount_95d88_36 : decode cJ13_bitCount_95d88 36 = .ok (.bipush 8, 2) := by decide +kernel
theorem dJ13_bitCount_95d88_38 : decode cJ13_bitCount_95d88 38 = .ok (.lushr, 1) := by decide +kernel
theorem dJ13_bitCount_95d88_39 : decode cJ13_bitCount_95d88 39 = .ok (.ladd, 1) := by decide +kernel
theorem dJ13_bitCount_95d88_40 : decode cJ13_bitCount_95d88 40 = .ok (.lstore_n 0, 1) := by decide +kernel
theorem dJ13_bitCount_95d88_41 : decode cJ13_bitCount_95d88 41 = .ok (.lload_n 0, 1) := by decide +kernel
theorem dJ13_bitCount_95d88_42 : decode cJ13_bitCount_95d88 42 = .ok (.lload_n 0, 1) := by decide +kernel
theorem dJ13_bitCount_95d88_43 : decode cJ13_bitCount_95d88 43 = .ok (.bipush 16, 2) := by decide +kernel
theorem dJ13_bitCount_95d88_45 : decode cJ13_bitCount_95d88 45 = .ok (.lushr, 1) := by decide +kernel
theorem dJ13_bitCount_95d88_46 : decode cJ13_bitCount_95d88 46 = .ok (.ladd, 1) := by decide +kernel
theorem dJ13_bitCount_95d88_47 : decode cJ13_bitCount_95d88 47 = .ok (.lstore_n 0, 1) := by decide +kernel
theorem dJ13_bitCount_95d88_48 : decode cJ13_bitCount_95d88 48 = .ok (.lload_n 0, 1) := by decide +kernel
theorem dJ13_bitCount_95d88_49 : decode cJ13_bitCount_95d88 49 = .ok (.lload_n 0, 1) := by decide +kernel
theorem dJ13_bitCount_95d88_50 : decode cJ13_bitCount_95d88 50 = .ok (.bipush 32, 2) := by decide +kernel
theorem dJ13_bitCount_95d88_52 : decode cJ13_bitCount_95d88 52 = .ok (.lushr, 1) := by decide +kernel
theorem dJ13_bitCount_95d88_53 : decode cJ13_bitCount_95d88 53 = .ok (.ladd, 1) := by decide +kernel
theorem dJ13_bitCount_95d88_54 : decode cJ13_bitCount_95d88 54 = .ok (.lstore_n 0, 1) := by decide +kernel
theorem dJ13_bitCount_95d88_55 : decode cJ13_bitCount_95d88 55 = .ok (.lload_n 0, 1) := by decide +kernel
theorem dJ13_bitCount_95d88_56 : decode cJ13_bitCount_95d88 56 = .ok (.l2i, 1) := by decide +kernel
theorem dJ13_bitCount_95d88_57 : decode cJ13_bitCount_95d88 57 = .ok (.bipush 127, 2) := by decide +kernel
theorem dJ13_bitCount_95d88_59 : decode cJ13_bitCount_95d88 59 = .ok (.iand, 1) := by decide +kernel
theorem dJ13_bitCount_95d88_60 : decode cJ13_bitCount_95d88 60 = .ok (.ireturn, 1) := by decide +kernel
theorem dJ9_max_7cf53_0 : decode cJ9_max_7cf53 0 = .ok (.iload_n 0, 1) := by decide +kernel
theorem dJ9_max_7cf53_1 : decode cJ9_max_7cf53 1 = .ok (.iload_n 1, 1) := by decide +kernel
theorem dJ9_max_7cf53_2 : decode cJ9_max_7cf53 2 = .ok (.if_icmp .lt 7, 3) := by decide +kernel
theorem dJ9_max_7cf53_5 : decode cJ9_max_7cf53 5 = .ok (.iload_n 0, 1) := by decide +kernel
theorem dJ9_max_7cf53_6 : decode cJ9_max_7cf53 6 = .ok (.goto 4, 3) := by decide +kernel
theorem dJ9_max_7cf53_9 : decode cJ9_max_7cf53 9 = .ok (.iload_n 1, 1) := by decide +kernel
theorem dJ9_max_7cf53_10 : decode cJ9_max_7cf53 10 = .ok (.ireturn, 1) := by decide +kernel
theorem dJ9_min_7cf53_0 : decode cJ9_min_7cf53 0 = .ok (.iload_n 0, 1) := by decide +kernel
theorem dJ9_min_7cf53_1 : decode cJ9_min_7cf53 1 = .ok (.iload_n 1, 1) := by decide +kernel
theorem dJ9_min_7cf53_2 : decode cJ9_min_7cf53 2 = .ok (.if_icmp .gt 7, 3) := by decide +kernel
theorem dJ9_min_7cf53_5 : decode cJ9_min_7cf53 5 = .ok (.iload_n 0, 1) := by decide +kernel
theorem dJ9_min_7cf53_6 : decode cJ9_min_7cf53 6 = .ok (.goto 4, 3) := by decide +kernel
theorem dJ9_min_7cf53_9 : decode cJ9_min_7cf53 9 = .ok (.iload_n 1, 1) := by decide +kernel
theorem dJ9_min_7cf53_10 : decode cJ9_min_7cf53 10 = .ok (.ireturn, 1) := by decide +kernel
theorem dJ0_length_8abf5_0 : decode cJ0_length_8abf5 0 = .ok (.aload_n 0, 1) := by decide +kernel
theorem dJ0_length_8abf5_1 : decode cJ0_length_8abf5 1 = .ok (.getfield 9, 3) := by decide +kernel
theorem dJ0_length_8abf5_4 : decode cJ0_length_8abf5 4 = .ok (.arraylength, 1) := by decide +kernel
theorem dJ0_length_8abf5_5 : decode cJ0_length_8abf5 5 = .ok (.aload_n 0, 1) := by decide +kernel
theorem dJ0_length_8abf5_6 : decode cJ0_length_8abf5 6 = .ok (.invokevirtual 335, 3) := by decide +kernel
theorem dJ0_length_8abf5_9 : decode cJ0_length_8abf5 9 = .ok (.ishr, 1) := by decide +kernel
theorem dJ0_length_8abf5_10 : decode cJ0_length_8abf5 10 = .ok (.ireturn, 1) := by decide +kernel
theorem dJ0_charAt_5068e_0 : decode cJ0_charAt_5068e 0 = .ok (.aload_n 0, 1) := by decide +kernel
theorem dJ0_charAt_5068e_1 : decode cJ0_charAt_5068e 1 = .ok (.invokevirtual 492, 3) := by decide +kernel
theorem dJ0_charAt_5068e_4 : decode cJ0_charAt_5068e 4 = .ok (.ifCond .eq 12, 3) := by decide +kernel
theorem dJ0_charAt_5068e_7 : decode cJ0_charAt_5068e 7 = .ok (.aload_n 0, 1) := by decide +kernel
theorem dJ0_charAt_5068e_8 : decode cJ0_charAt_5068e 8 = .ok (.getfield 9, 3) := by decide +kernel
theorem dJ0_charAt_5068e_11 : decode cJ0_charAt_5068e 11 = .ok (.iload_n 1, 1) := by decide +kernel
theorem dJ0_charAt_5068e_12 : decode cJ0_charAt_5068e 12 = .ok (.invokestatic 495, 3) := by decide +kernel
theorem dJ0_charAt_5068e_15 : decode cJ0_charAt_5068e 15 = .ok (.ireturn, 1) := by decide +kernel
theorem dJ0_charAt_5068e_16 : decode cJ0_charAt_5068e 16 = .ok (.aload_n 0, 1) := by decide +kernel
theorem dJ0_charAt_5068e_17 : decode cJ0_charAt_5068e 17 = .ok (.getfield 9, 3) := by decide +kernel
theorem dJ0_charAt_5068e_20 : decode cJ0_charAt_5068e 20 = .ok (.iload_n 1, 1) := by decide +kernel
theorem dJ0_charAt_5068e_21 : decode cJ0_charAt_5068e 21 = .ok (.invokestatic 498, 3) := by decide +kernel
theorem dJ0_charAt_5068e_24 : decode cJ0_charAt_5068e 24 = .ok (.ireturn, 1) := by decide +kernel
theorem dJ0_coder_7d493_0 : decode cJ0_coder_7d493 0 = .ok (.getstatic 38, 3) := by decide +kernel
theorem dJ0_coder_7d493_3 : decode cJ0_coder_7d493 3 = .ok (.ifCond .eq 10, 3) := by decide +kernel
theorem dJ0_coder_7d493_6 : decode cJ0_coder_7d493 6 = .ok (.aload_n 0, 1) := by decide +kernel
theorem dJ0_coder_7d493_7 : decode cJ0_coder_7d493 7 = .ok (.getfield 15, 3) := by decide +kernel
theorem dJ0_coder_7d493_10 : decode cJ0_coder_7d493 10 = .ok (.goto 4, 3) := by decide +kernel
theorem dJ0_coder_7d493_13 : decode cJ0_coder_7d493 13 = .ok (.iconst 1, 1) := by decide +kernel
theorem dJ0_coder_7d493_14 : decode cJ0_coder_7d493 14 = .ok (.ireturn, 1) := by decide +kernel
theorem dJ0_isLatin1_aae02_0 : decode cJ0_isLatin1_aae02 0 = .ok (.getstatic 38, 3) := by decide +kernel
theorem dJ0_isLatin1_aae02_3 : decode cJ0_isLatin1_aae02 3 = .ok (.ifCond .eq 14, 3) := by decide +kernel
theorem dJ0_isLatin1_aae02_6 : decode cJ0_isLatin1_aae02 6 = .ok (.aload_n 0, 1) := by decide +kernel
theorem dJ0_isLatin1_aae02_7 : decode cJ0_isLatin1_aae02 7 = .ok (.getfield 15, 3) := by decide +kernel
theorem dJ0_isLatin1_aae02_10 : decode cJ0_isLatin1_aae02 10 = .ok (.ifCond .ne 7, 3) := by decide +kernel
theorem dJ0_isLatin1_aae02_13 : decode cJ0_isLatin1_aae02 13 = .ok (.iconst 1, 1) := by decide +kernel
theorem dJ0_isLatin1_aae02_14 : decode cJ0_isLatin1_aae02 14 = .ok (.goto 4, 3) := by decide +kernel
theorem dJ0_isLatin1_aae02_17 : decode cJ0_isLatin1_aae02 17 = .ok (.iconst 0, 1) := by decide +kernel
theorem dJ0_isLatin1_aae02_18 : decode cJ0_isLatin1_aae02 18 = .ok (.ireturn, 1) := by decide +kernel
theorem dJ0_checkIndex_df160_0 : decode cJ0_checkIndex_df160 0 = .ok (.iload_n 0, 1) := by decide +kernel
theorem dJ0_checkIndex_df160_1 : decode cJ0_checkIndex_df160 1 = .ok (.iload_n 1, 1) := by decide +kernel
theorem dJ0_checkIndex_df160_2 : decode cJ0_checkIndex_df160 2 = .ok (.getstatic 1053, 3) := by decide +kernel
theorem dJ0_checkIndex_df160_5 : decode cJ0_checkIndex_df160 5 = .ok (.invokestatic 1059, 3) := by decide +kernel
theorem dJ0_checkIndex_df160_8 : decode cJ0_checkIndex_df160 8 = .ok (.pop, 1) := by decide +kernel
theorem dJ0_checkIndex_df160_9 : decode cJ0_checkIndex_df160 9 = .ok (.return_, 1) := by decide +kernel
theorem dJ1_charAt_3b067_0 : decode cJ1_charAt_3b067 0 = .ok (.iload_n 1, 1) := by decide +kernel
theorem dJ1_charAt_3b067_1 : decode cJ1_charAt_3b067 1 = .ok (.aload_n 0, 1) := by decide +kernel
theorem dJ1_charAt_3b067_2 : decode cJ1_charAt_3b067 2 = .ok (.arraylength, 1) := by decide +kernel
theorem dJ1_charAt_3b067_3 : decode cJ1_charAt_3b067 3 = .ok (.invokestatic 9, 3) := by decide +kernel
theorem dJ1_charAt_3b067_6 : decode cJ1_charAt_3b067 6 = .ok (.aload_n 0, 1) := by decide +kernel
theorem dJ1_charAt_3b067_7 : decode cJ1_charAt_3b067 7 = .ok (.iload_n 1, 1) := by decide +kernel
theorem dJ1_charAt_3b067_8 : decode cJ1_charAt_3b067 8 = .ok (.baload, 1) := by decide +kernel
theorem dJ1_charAt_3b067_9 : decode cJ1_charAt_3b067 9 = .ok (.sipush 255, 3) := by decide +kernel
theorem dJ1_charAt_3b067_12 : decode cJ1_charAt_3b067 12 = .ok (.iand, 1) := by decide +kernel
theorem dJ1_charAt_3b067_13 : decode cJ1_charAt_3b067 13 = .ok (.i2c, 1) := by decide +kernel
theorem dJ1_charAt_3b067_14 : decode cJ1_charAt_3b067 14 = .ok (.ireturn, 1) := by decide +kernel
theorem dJ2_getChar_3b067_0 : decode cJ2_getChar_3b067 0 = .ok (.getstatic 44, 3) := by decide +kernel
theorem dJ2_getChar_3b067_3 : decode cJ2_getChar_3b067 3 = .ok (.ifCond .ne 25, 3) := by decide +kernel
theorem dJ2_getChar_3b067_6 : decode cJ2_getChar_3b067 6 = .ok (.iload_n 1, 1) := by decide +kernel
theorem dJ2_getChar_3b067_7 : decode cJ2_getChar_3b067 7 = .ok (.ifCond .lt 11, 3) := by decide +kernel
theorem dJ2_getChar_3b067_10 : decode cJ2_getChar_3b067 10 = .ok (.iload_n 1, 1) := by decide +kernel
theorem dJ2_getChar_3b067_11 : decode cJ2_getChar_3b067 11 = .ok (.aload_n 0, 1) := by decide +kernel
theorem dJ2_getChar_3b067_12 : decode cJ2_getChar_3b067 12 = .ok (.invokestatic 48, 3) := by decide +kernel
theorem dJ2_getChar_3b067_15 : decode cJ2_getChar_3b067 15 = .ok (.if_icmp .lt 13, 3) := by decide +kernel
theorem dJ2_getChar_3b067_18 : decode cJ2_getChar_3b067 18 = .ok (.new 52, 3) := by decide +kernel
theorem dJ2_getChar_3b067_21 : decode cJ2_getChar_3b067 21 = .ok (.dup, 1) := by decide +kernel
theorem dJ2_getChar_3b067_22 : decode cJ2_getChar_3b067 22 = .ok (.ldc 54, 2) := by decide +kernel
theorem dJ2_getChar_3b067_24 : decode cJ2_getChar_3b067 24 = .ok (.invokespecial 56, 3) := by decide +kernel
theorem dJ2_getChar_3b067_27 : decode cJ2_getChar_3b067 27 = .ok (.athrow, 1) := by decide +kernel
theorem dJ2_getChar_3b067_28 : decode cJ2_getChar_3b067 28 = .ok (.iload_n 1, 1) := by decide +kernel
theorem dJ2_getChar_3b067_29 : decode cJ2_getChar_3b067 29 = .ok (.iconst 1, 1) := by decide +kernel
theorem dJ2_getChar_3b067_30 : decode cJ2_getChar_3b067 30 = .ok (.ishl, 1) := by decide +kernel
theorem dJ2_getChar_3b067_31 : decode cJ2_getChar_3b067 31 = .ok (.istore_n 1, 1) := by decide +kernel
theorem dJ2_getChar_3b067_32 : decode cJ2_getChar_3b067 32 = .ok (.aload_n 0, 1) := by decide +kernel
theorem dJ2_getChar_3b067_33 : decode cJ2_getChar_3b067 33 = .ok (.iload_n 1, 1) := by decide +kernel
theorem dJ2_getChar_3b067_34 : decode cJ2_getChar_3b067 34 = .ok (.iinc 1 1, 3) := by decide +kernel
theorem dJ2_getChar_3b067_37 : decode cJ2_getChar_3b067 37 = .ok (.baload, 1) := by decide +kernel
theorem dJ2_getChar_3b067_38 : decode cJ2_getChar_3b067 38 = .ok (.sipush 255, 3) := by decide +kernel
theorem dJ2_getChar_3b067_41 : decode cJ2_getChar_3b067 41 = .ok (.iand, 1) := by decide +kernel
theorem dJ2_getChar_3b067_42 : decode cJ2_getChar_3b067 42 = .ok (.getstatic 59, 3) := by decide +kernel
theorem dJ2_getChar_3b067_45 : decode cJ2_getChar_3b067 45 = .ok (.ishl, 1) := by decide +kernel
theorem dJ2_getChar_3b067_46 : decode cJ2_getChar_3b067 46 = .ok (.aload_n 0, 1) := by decide +kernel
theorem dJ2_getChar_3b067_47 : decode cJ2_getChar_3b067 47 = .ok (.iload_n 1, 1) := by decide +kernel
theorem dJ2_getChar_3b067_48 : decode cJ2_getChar_3b067 48 = .ok (.baload, 1) := by decide +kernel
theorem dJ2_getChar_3b067_49 : decode cJ2_getChar_3b067 49 = .ok (.sipush 255, 3) := by decide +kernel
theorem dJ2_getChar_3b067_52 : decode cJ2_getChar_3b067 52 = .ok (.iand, 1) := by decide +kernel
theorem dJ2_getChar_3b067_53 : decode cJ2_getChar_3b067 53 = .ok (.getstatic 63, 3) := by decide +kernel
theorem dJ2_getChar_3b067_56 : decode cJ2_getChar_3b067 56 = .ok (.ishl, 1) := by decide +kernel
theorem dJ2_getChar_3b067_57 : decode cJ2_getChar_3b067 57 = .ok (.ior, 1) := by decide +kernel
theorem dJ2_getChar_3b067_58 : decode cJ2_getChar_3b067 58 = .ok (.i2c, 1) := by decide +kernel
theorem dJ2_getChar_3b067_59 : decode cJ2_getChar_3b067 59 = .ok (.ireturn, 1) := by decide +kernel
theorem dJ2_length_9d52b_0 : decode cJ2_length_9d52b 0 = .ok (.aload_n 0, 1) := by decide +kernel
theorem dJ2_length_9d52b_1 : decode cJ2_length_9d52b 1 = .ok (.arraylength, 1) := by decide +kernel
theorem dJ2_length_9d52b_2 : decode cJ2_length_9d52b 2 = .ok (.iconst 1, 1) := by decide +kernel
theorem dJ2_length_9d52b_3 : decode cJ2_length_9d52b 3 = .ok (.ishr, 1) := by decide +kernel
theorem dJ2_length_9d52b_4 : decode cJ2_length_9d52b 4 = .ok (.ireturn, 1) := by decide +kernel
theorem dJ2_charAt_3b067_0 : decode cJ2_charAt_3b067 0 = .ok (.iload_n 1, 1) := by decide +kernel
theorem dJ2_charAt_3b067_1 : decode cJ2_charAt_3b067 1 = .ok (.aload_n 0, 1) := by decide +kernel
theorem dJ2_charAt_3b067_2 : decode cJ2_charAt_3b067 2 = .ok (.invokestatic 67, 3) := by decide +kernel
theorem dJ2_charAt_3b067_5 : decode cJ2_charAt_3b067 5 = .ok (.aload_n 0, 1) := by decide +kernel
theorem dJ2_charAt_3b067_6 : decode cJ2_charAt_3b067 6 = .ok (.iload_n 1, 1) := by decide +kernel
theorem dJ2_charAt_3b067_7 : decode cJ2_charAt_3b067 7 = .ok (.invokestatic 71, 3) := by decide +kernel
theorem dJ2_charAt_3b067_10 : decode cJ2_charAt_3b067 10 = .ok (.ireturn, 1) := by decide +kernel
theorem dJ2_checkIndex_2214a_0 : decode cJ2_checkIndex_2214a 0 = .ok (.iload_n 0, 1) := by decide +kernel
theorem dJ2_checkIndex_2214a_1 : decode cJ2_checkIndex_2214a 1 = .ok (.aload_n 1, 1) := by decide +kernel
theorem dJ2_checkIndex_2214a_2 : decode cJ2_checkIndex_2214a 2 = .ok (.invokestatic 48, 3) := by decide +kernel
theorem dJ2_checkIndex_2214a_5 : decode cJ2_checkIndex_2214a 5 = .ok (.invokestatic 414, 3) := by decide +kernel
theorem dJ2_checkIndex_2214a_8 : decode cJ2_checkIndex_2214a 8 = .ok (.return_, 1) := by decide +kernel
theorem dJ3_checkIndex_8e157_0 : decode cJ3_checkIndex_8e157 0 = .ok (.iload_n 0, 1) := by decide +kernel
theorem dJ3_checkIndex_8e157_1 : decode cJ3_checkIndex_8e157 1 = .ok (.ifCond .lt 8, 3) := by decide +kernel
theorem dJ3_checkIndex_8e157_4 : decode cJ3_checkIndex_8e157 4 = .ok (.iload_n 0, 1) := by decide +kernel
theorem dJ3_checkIndex_8e157_5 : decode cJ3_checkIndex_8e157 5 = .ok (.iload_n 1, 1) := by decide +kernel
theorem dJ3_checkIndex_8e157_6 : decode cJ3_checkIndex_8e157 6 = .ok (.if_icmp .lt 10, 3) := by decide +kernel
theorem dJ3_checkIndex_8e157_9 : decode cJ3_checkIndex_8e157 9 = .ok (.aload_n 2, 1) := by decide +kernel
theorem dJ3_checkIndex_8e157_10 : decode cJ3_checkIndex_8e157 10 = .ok (.iload_n 0, 1) := by decide +kernel
theorem dJ3_checkIndex_8e157_11 : decode cJ3_checkIndex_8e157 11 = .ok (.iload_n 1, 1) := by decide +kernel
theorem dJ3_checkIndex_8e157_12 : decode cJ3_checkIndex_8e157 12 = .ok (.invokestatic 95, 3) := by decide +kernel
theorem dJ3_checkIndex_8e157_15 : decode cJ3_checkIndex_8e157 15 = .ok (.athrow, 1) := by decide +kernel
theorem dJ3_checkIndex_8e157_16 : decode cJ3_checkIndex_8e157 16 = .ok (.iload_n 0, 1) := by decide +kernel
theorem dJ3_checkIndex_8e157_17 : decode cJ3_checkIndex_8e157 17 = .ok (.ireturn, 1) := by decide +kernel
theorem dL_law_0 : decode cL_law 0 = .ok (.new 7, 3) := by decide +kernel
theorem dL_law_3 : decode cL_law 3 = .ok (.dup, 1) := by decide +kernel
theorem dL_law_4 : decode cL_law 4 = .ok (.invokespecial 9, 3) := by decide +kernel
theorem dL_law_7 : decode cL_law 7 = .ok (.astore_n 1, 1) := by decide +kernel
theorem dL_law_8 : decode cL_law 8 = .ok (.new 10, 3) := by decide +kernel
theorem dL_law_11 : decode cL_law 11 = .ok (.dup, 1) := by decide +kernel
theorem dL_law_12 : decode cL_law 12 = .ok (.invokespecial 12, 3) := by decide +kernel
theorem dL_law_15 : decode cL_law 15 = .ok (.astore_n 2, 1) := by decide +kernel
theorem dL_law_16 : decode cL_law 16 = .ok (.iconst 0, 1) := by decide +kernel
theorem dL_law_17 : decode cL_law 17 = .ok (.istore_n 3, 1) := by decide +kernel
theorem dL_law_18 : decode cL_law 18 = .ok (.iload_n 3, 1) := by decide +kernel
theorem dL_law_19 : decode cL_law 19 = .ok (.aload_n 0, 1) := by decide +kernel
theorem dL_law_20 : decode cL_law 20 = .ok (.arraylength, 1) := by decide +kernel
theorem dL_law_21 : decode cL_law 21 = .ok (.bipush 6, 2) := by decide +kernel
theorem dL_law_23 : decode cL_law 23 = .ok (.isub, 1) := by decide +kernel
theorem dL_law_24 : decode cL_law 24 = .ok (.if_icmp .gt 688, 3) := by decide +kernel
theorem dL_law_27 : decode cL_law 27 = .ok (.aload_n 0, 1) := by decide +kernel
theorem dL_law_28 : decode cL_law 28 = .ok (.iload_n 3, 1) := by decide +kernel
theorem dL_law_29 : decode cL_law 29 = .ok (.iaload, 1) := by decide +kernel
theorem dL_law_30 : decode cL_law 30 = .ok (.bipush 31, 2) := by decide +kernel
theorem dL_law_32 : decode cL_law 32 = .ok (.iand, 1) := by decide +kernel
theorem dL_law_33 : decode cL_law 33 = .ok (.tableswitch 673 0 17 #[87, 150, 173, 196, 219, 242, 285, 334, 357, 370, 403, 436, 459, 502, 545, 604, 627, 650], 87) := by decide +kernel
theorem dL_law_120 : decode cL_law 120 = .ok (.aload_n 1, 1) := by decide +kernel
theorem dL_law_121 : decode cL_law 121 = .ok (.aload_n 0, 1) := by decide +kernel
theorem dL_law_122 : decode cL_law 122 = .ok (.iload_n 3, 1) := by decide +kernel
theorem dL_law_123 : decode cL_law 123 = .ok (.iconst 1, 1) := by decide +kernel
theorem dL_law_124 : decode cL_law 124 = .ok (.iadd, 1) := by decide +kernel
theorem dL_law_125 : decode cL_law 125 = .ok (.iaload, 1) := by decide +kernel
theorem dL_law_126 : decode cL_law 126 = .ok (.aload_n 0, 1) := by decide +kernel
theorem dL_law_127 : decode cL_law 127 = .ok (.iload_n 3, 1) := by decide +kernel
theorem dL_law_128 : decode cL_law 128 = .ok (.iconst 2, 1) := by decide +kernel
theorem dL_law_129 : decode cL_law 129 = .ok (.iadd, 1) := by decide +kernel
theorem dL_law_130 : decode cL_law 130 = .ok (.iaload, 1) := by decide +kernel
theorem dL_law_131 : decode cL_law 131 = .ok (.aload_n 0, 1) := by decide +kernel
theorem dL_law_132 : decode cL_law 132 = .ok (.iload_n 3, 1) := by decide +kernel
theorem dL_law_133 : decode cL_law 133 = .ok (.iconst 3, 1) := by decide +kernel
theorem dL_law_134 : decode cL_law 134 = .ok (.iadd, 1) := by decide +kernel
theorem dL_law_135 : decode cL_law 135 = .ok (.iaload, 1) := by decide +kernel
theorem dL_law_136 : decode cL_law 136 = .ok (.aload_n 0, 1) := by decide +kernel
theorem dL_law_137 : decode cL_law 137 = .ok (.iload_n 3, 1) := by decide +kernel
theorem dL_law_138 : decode cL_law 138 = .ok (.iconst 4, 1) := by decide +kernel
theorem dL_law_139 : decode cL_law 139 = .ok (.iadd, 1) := by decide +kernel
theorem dL_law_140 : decode cL_law 140 = .ok (.iaload, 1) := by decide +kernel
theorem dL_law_141 : decode cL_law 141 = .ok (.aload_n 0, 1) := by decide +kernel
theorem dL_law_142 : decode cL_law 142 = .ok (.iload_n 3, 1) := by decide +kernel
theorem dL_law_143 : decode cL_law 143 = .ok (.iconst 5, 1) := by decide +kernel
theorem dL_law_144 : decode cL_law 144 = .ok (.iadd, 1) := by decide +kernel
theorem dL_law_145 : decode cL_law 145 = .ok (.iaload, 1) := by decide +kernel
