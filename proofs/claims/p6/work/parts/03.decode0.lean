theorem dX0_write_0 : decode cX0_write 0 = .ok (.aload_n 0, 1) := by decide +kernel
theorem dX0_write_1 : decode cX0_write 1 = .ok (.invokevirtual 7, 3) := by decide +kernel
theorem dX0_write_4 : decode cX0_write 4 = .ok (.iconst 0, 1) := by decide +kernel
theorem dX0_write_5 : decode cX0_write 5 = .ok (.istore_n 2, 1) := by decide +kernel
theorem dX0_write_6 : decode cX0_write 6 = .ok (.iload_n 2, 1) := by decide +kernel
theorem dX0_write_7 : decode cX0_write 7 = .ok (.iload_n 1, 1) := by decide +kernel
theorem dX0_write_8 : decode cX0_write 8 = .ok (.if_icmp .ge 86, 3) := by decide +kernel
theorem dX0_write_11 : decode cX0_write 11 = .ok (.aload_n 0, 1) := by decide +kernel
theorem dX0_write_12 : decode cX0_write 12 = .ok (.ldc 14, 2) := by decide +kernel
theorem dX0_write_14 : decode cX0_write 14 = .ok (.iload_n 2, 1) := by decide +kernel
theorem dX0_write_15 : decode cX0_write 15 = .ok (.invokestatic 16, 3) := by decide +kernel
theorem dX0_write_18 : decode cX0_write 18 = .ok (.aload_n 0, 1) := by decide +kernel
theorem dX0_write_19 : decode cX0_write 19 = .ok (.ldc 20, 2) := by decide +kernel
theorem dX0_write_21 : decode cX0_write 21 = .ok (.iload_n 2, 1) := by decide +kernel
theorem dX0_write_22 : decode cX0_write 22 = .ok (.invokestatic 16, 3) := by decide +kernel
theorem dX0_write_25 : decode cX0_write 25 = .ok (.aload_n 0, 1) := by decide +kernel
theorem dX0_write_26 : decode cX0_write 26 = .ok (.ldc 22, 2) := by decide +kernel
theorem dX0_write_28 : decode cX0_write 28 = .ok (.iload_n 2, 1) := by decide +kernel
theorem dX0_write_29 : decode cX0_write 29 = .ok (.invokestatic 16, 3) := by decide +kernel
theorem dX0_write_32 : decode cX0_write 32 = .ok (.aload_n 0, 1) := by decide +kernel
theorem dX0_write_33 : decode cX0_write 33 = .ok (.ldc 24, 2) := by decide +kernel
theorem dX0_write_35 : decode cX0_write 35 = .ok (.iload_n 2, 1) := by decide +kernel
theorem dX0_write_36 : decode cX0_write 36 = .ok (.invokestatic 16, 3) := by decide +kernel
theorem dX0_write_39 : decode cX0_write 39 = .ok (.aload_n 0, 1) := by decide +kernel
theorem dX0_write_40 : decode cX0_write 40 = .ok (.ldc 26, 2) := by decide +kernel
theorem dX0_write_42 : decode cX0_write 42 = .ok (.iload_n 2, 1) := by decide +kernel
theorem dX0_write_43 : decode cX0_write 43 = .ok (.invokestatic 16, 3) := by decide +kernel
theorem dX0_write_46 : decode cX0_write 46 = .ok (.aload_n 0, 1) := by decide +kernel
theorem dX0_write_47 : decode cX0_write 47 = .ok (.ldc 28, 2) := by decide +kernel
theorem dX0_write_49 : decode cX0_write 49 = .ok (.iload_n 2, 1) := by decide +kernel
theorem dX0_write_50 : decode cX0_write 50 = .ok (.invokestatic 16, 3) := by decide +kernel
theorem dX0_write_53 : decode cX0_write 53 = .ok (.aload_n 0, 1) := by decide +kernel
theorem dX0_write_54 : decode cX0_write 54 = .ok (.ldc 30, 2) := by decide +kernel
theorem dX0_write_56 : decode cX0_write 56 = .ok (.iload_n 2, 1) := by decide +kernel
theorem dX0_write_57 : decode cX0_write 57 = .ok (.invokestatic 16, 3) := by decide +kernel
theorem dX0_write_60 : decode cX0_write 60 = .ok (.aload_n 0, 1) := by decide +kernel
theorem dX0_write_61 : decode cX0_write 61 = .ok (.ldc 32, 2) := by decide +kernel
theorem dX0_write_63 : decode cX0_write 63 = .ok (.iload_n 2, 1) := by decide +kernel
theorem dX0_write_64 : decode cX0_write 64 = .ok (.invokestatic 16, 3) := by decide +kernel
theorem dX0_write_67 : decode cX0_write 67 = .ok (.aload_n 0, 1) := by decide +kernel
theorem dX0_write_68 : decode cX0_write 68 = .ok (.ldc 34, 2) := by decide +kernel
theorem dX0_write_70 : decode cX0_write 70 = .ok (.iload_n 2, 1) := by decide +kernel
theorem dX0_write_71 : decode cX0_write 71 = .ok (.invokestatic 16, 3) := by decide +kernel
theorem dX0_write_74 : decode cX0_write 74 = .ok (.aload_n 0, 1) := by decide +kernel
theorem dX0_write_75 : decode cX0_write 75 = .ok (.ldc 36, 2) := by decide +kernel
theorem dX0_write_77 : decode cX0_write 77 = .ok (.iload_n 2, 1) := by decide +kernel
theorem dX0_write_78 : decode cX0_write 78 = .ok (.invokestatic 16, 3) := by decide +kernel
theorem dX0_write_81 : decode cX0_write 81 = .ok (.aload_n 0, 1) := by decide +kernel
theorem dX0_write_82 : decode cX0_write 82 = .ok (.ldc 38, 2) := by decide +kernel
theorem dX0_write_84 : decode cX0_write 84 = .ok (.iload_n 2, 1) := by decide +kernel
theorem dX0_write_85 : decode cX0_write 85 = .ok (.invokestatic 16, 3) := by decide +kernel
theorem dX0_write_88 : decode cX0_write 88 = .ok (.iinc 2 1, 3) := by decide +kernel
theorem dX0_write_91 : decode cX0_write 91 = .ok (.goto (-85), 3) := by decide +kernel
theorem dX0_write_94 : decode cX0_write 94 = .ok (.aload_n 0, 1) := by decide +kernel
theorem dX0_write_95 : decode cX0_write 95 = .ok (.ldc 38, 2) := by decide +kernel
theorem dX0_write_97 : decode cX0_write 97 = .ok (.iload_n 1, 1) := by decide +kernel
theorem dX0_write_98 : decode cX0_write 98 = .ok (.invokestatic 16, 3) := by decide +kernel
theorem dX0_write_101 : decode cX0_write 101 = .ok (.aload_n 0, 1) := by decide +kernel
theorem dX0_write_102 : decode cX0_write 102 = .ok (.ldc 40, 2) := by decide +kernel
theorem dX0_write_104 : decode cX0_write 104 = .ok (.iload_n 1, 1) := by decide +kernel
theorem dX0_write_105 : decode cX0_write 105 = .ok (.invokestatic 16, 3) := by decide +kernel
theorem dX0_write_108 : decode cX0_write 108 = .ok (.return_, 1) := by decide +kernel
theorem dX0_append_0 : decode cX0_append 0 = .ok (.iconst 0, 1) := by decide +kernel
theorem dX0_append_1 : decode cX0_append 1 = .ok (.istore_n 3, 1) := by decide +kernel
theorem dX0_append_2 : decode cX0_append 2 = .ok (.iload_n 3, 1) := by decide +kernel
theorem dX0_append_3 : decode cX0_append 3 = .ok (.aload_n 1, 1) := by decide +kernel
theorem dX0_append_4 : decode cX0_append 4 = .ok (.invokevirtual 42, 3) := by decide +kernel
theorem dX0_append_7 : decode cX0_append 7 = .ok (.if_icmp .ge 62, 3) := by decide +kernel
theorem dX0_append_10 : decode cX0_append 10 = .ok (.aload_n 1, 1) := by decide +kernel
theorem dX0_append_11 : decode cX0_append 11 = .ok (.iload_n 3, 1) := by decide +kernel
theorem dX0_append_12 : decode cX0_append 12 = .ok (.invokevirtual 48, 3) := by decide +kernel
theorem dX0_append_15 : decode cX0_append 15 = .ok (.istore 4, 2) := by decide +kernel
theorem dX0_append_17 : decode cX0_append 17 = .ok (.iload 4, 2) := by decide +kernel
theorem dX0_append_19 : decode cX0_append 19 = .ok (.bipush 35, 2) := by decide +kernel
theorem dX0_append_21 : decode cX0_append 21 = .ok (.if_icmp .ne 15, 3) := by decide +kernel
theorem dX0_append_24 : decode cX0_append 24 = .ok (.aload_n 0, 1) := by decide +kernel
theorem dX0_append_25 : decode cX0_append 25 = .ok (.bipush 48, 2) := by decide +kernel
theorem dX0_append_27 : decode cX0_append 27 = .ok (.iload_n 2, 1) := by decide +kernel
theorem dX0_append_28 : decode cX0_append 28 = .ok (.iadd, 1) := by decide +kernel
theorem dX0_append_29 : decode cX0_append 29 = .ok (.i2c, 1) := by decide +kernel
theorem dX0_append_30 : decode cX0_append 30 = .ok (.invokevirtual 52, 3) := by decide +kernel
theorem dX0_append_33 : decode cX0_append 33 = .ok (.goto 30, 3) := by decide +kernel
theorem dX0_append_36 : decode cX0_append 36 = .ok (.iload 4, 2) := by decide +kernel
theorem dX0_append_38 : decode cX0_append 38 = .ok (.bipush 64, 2) := by decide +kernel
theorem dX0_append_40 : decode cX0_append 40 = .ok (.if_icmp .ne 17, 3) := by decide +kernel
theorem dX0_append_43 : decode cX0_append 43 = .ok (.aload_n 0, 1) := by decide +kernel
theorem dX0_append_44 : decode cX0_append 44 = .ok (.bipush 48, 2) := by decide +kernel
theorem dX0_append_46 : decode cX0_append 46 = .ok (.iload_n 2, 1) := by decide +kernel
theorem dX0_append_47 : decode cX0_append 47 = .ok (.iadd, 1) := by decide +kernel
theorem dX0_append_48 : decode cX0_append 48 = .ok (.iconst 1, 1) := by decide +kernel
theorem dX0_append_49 : decode cX0_append 49 = .ok (.iadd, 1) := by decide +kernel
theorem dX0_append_50 : decode cX0_append 50 = .ok (.i2c, 1) := by decide +kernel
theorem dX0_append_51 : decode cX0_append 51 = .ok (.invokevirtual 52, 3) := by decide +kernel
theorem dX0_append_54 : decode cX0_append 54 = .ok (.goto 9, 3) := by decide +kernel
theorem dX0_append_57 : decode cX0_append 57 = .ok (.aload_n 0, 1) := by decide +kernel
theorem dX0_append_58 : decode cX0_append 58 = .ok (.iload 4, 2) := by decide +kernel
theorem dX0_append_60 : decode cX0_append 60 = .ok (.invokevirtual 52, 3) := by decide +kernel
theorem dX0_append_63 : decode cX0_append 63 = .ok (.iinc 3 1, 3) := by decide +kernel
theorem dX0_append_66 : decode cX0_append 66 = .ok (.goto (-64), 3) := by decide +kernel
theorem dX0_append_69 : decode cX0_append 69 = .ok (.return_, 1) := by decide +kernel
theorem dX1_init_0 : decode cX1_init 0 = .ok (.aload_n 0, 1) := by decide +kernel
theorem dX1_init_1 : decode cX1_init 1 = .ok (.invokespecial 3, 3) := by decide +kernel
theorem dX1_init_4 : decode cX1_init 4 = .ok (.aload_n 0, 1) := by decide +kernel
theorem dX1_init_5 : decode cX1_init 5 = .ok (.bipush 100, 2) := by decide +kernel
theorem dX1_init_7 : decode cX1_init 7 = .ok (.anewarray 9, 3) := by decide +kernel
theorem dX1_init_10 : decode cX1_init 10 = .ok (.putfield 11, 3) := by decide +kernel
theorem dX1_init_13 : decode cX1_init 13 = .ok (.aload_n 0, 1) := by decide +kernel
theorem dX1_init_14 : decode cX1_init 14 = .ok (.iconst 0, 1) := by decide +kernel
theorem dX1_init_15 : decode cX1_init 15 = .ok (.putfield 17, 3) := by decide +kernel
theorem dX1_init_18 : decode cX1_init 18 = .ok (.aload_n 0, 1) := by decide +kernel
theorem dX1_init_19 : decode cX1_init 19 = .ok (.iconst 0, 1) := by decide +kernel
theorem dX1_init_20 : decode cX1_init 20 = .ok (.putfield 21, 3) := by decide +kernel
theorem dX1_init_23 : decode cX1_init 23 = .ok (.iconst 0, 1) := by decide +kernel
theorem dX1_init_24 : decode cX1_init 24 = .ok (.istore_n 1, 1) := by decide +kernel
theorem dX1_init_25 : decode cX1_init 25 = .ok (.iload_n 1, 1) := by decide +kernel
theorem dX1_init_26 : decode cX1_init 26 = .ok (.bipush 100, 2) := by decide +kernel
theorem dX1_init_28 : decode cX1_init 28 = .ok (.if_icmp .ge 22, 3) := by decide +kernel
theorem dX1_init_31 : decode cX1_init 31 = .ok (.aload_n 0, 1) := by decide +kernel
theorem dX1_init_32 : decode cX1_init 32 = .ok (.getfield 11, 3) := by decide +kernel
theorem dX1_init_35 : decode cX1_init 35 = .ok (.iload_n 1, 1) := by decide +kernel
theorem dX1_init_36 : decode cX1_init 36 = .ok (.new 9, 3) := by decide +kernel
theorem dX1_init_39 : decode cX1_init 39 = .ok (.dup, 1) := by decide +kernel
theorem dX1_init_40 : decode cX1_init 40 = .ok (.invokespecial 24, 3) := by decide +kernel
theorem dX1_init_43 : decode cX1_init 43 = .ok (.aastore, 1) := by decide +kernel
theorem dX1_init_44 : decode cX1_init 44 = .ok (.iinc 1 1, 3) := by decide +kernel
theorem dX1_init_47 : decode cX1_init 47 = .ok (.goto (-22), 3) := by decide +kernel
theorem dX1_init_50 : decode cX1_init 50 = .ok (.return_, 1) := by decide +kernel
theorem dX1_clear_0 : decode cX1_clear 0 = .ok (.aload_n 0, 1) := by decide +kernel
theorem dX1_clear_1 : decode cX1_clear 1 = .ok (.iconst 0, 1) := by decide +kernel
theorem dX1_clear_2 : decode cX1_clear 2 = .ok (.putfield 17, 3) := by decide +kernel
theorem dX1_clear_5 : decode cX1_clear 5 = .ok (.aload_n 0, 1) := by decide +kernel
theorem dX1_clear_6 : decode cX1_clear 6 = .ok (.iconst 0, 1) := by decide +kernel
theorem dX1_clear_7 : decode cX1_clear 7 = .ok (.putfield 21, 3) := by decide +kernel
theorem dX1_clear_10 : decode cX1_clear 10 = .ok (.return_, 1) := by decide +kernel
theorem dX1_keep_0 : decode cX1_keep 0 = .ok (.aload_n 0, 1) := by decide +kernel
theorem dX1_keep_1 : decode cX1_keep 1 = .ok (.getfield 11, 3) := by decide +kernel
theorem dX1_keep_4 : decode cX1_keep 4 = .ok (.aload_n 0, 1) := by decide +kernel
theorem dX1_keep_5 : decode cX1_keep 5 = .ok (.getfield 17, 3) := by decide +kernel
theorem dX1_keep_8 : decode cX1_keep 8 = .ok (.aaload, 1) := by decide +kernel
theorem dX1_keep_9 : decode cX1_keep 9 = .ok (.astore_n 2, 1) := by decide +kernel
theorem dX1_keep_10 : decode cX1_keep 10 = .ok (.aload_n 2, 1) := by decide +kernel
theorem dX1_keep_11 : decode cX1_keep 11 = .ok (.aload_n 1, 1) := by decide +kernel
theorem dX1_keep_12 : decode cX1_keep 12 = .ok (.invokevirtual 25, 3) := by decide +kernel
theorem dX1_keep_15 : decode cX1_keep 15 = .ok (.aload_n 0, 1) := by decide +kernel
theorem dX1_keep_16 : decode cX1_keep 16 = .ok (.aload_n 0, 1) := by decide +kernel
theorem dX1_keep_17 : decode cX1_keep 17 = .ok (.getfield 17, 3) := by decide +kernel
theorem dX1_keep_20 : decode cX1_keep 20 = .ok (.iconst 1, 1) := by decide +kernel
theorem dX1_keep_21 : decode cX1_keep 21 = .ok (.iadd, 1) := by decide +kernel
theorem dX1_keep_22 : decode cX1_keep 22 = .ok (.bipush 100, 2) := by decide +kernel
theorem dX1_keep_24 : decode cX1_keep 24 = .ok (.irem, 1) := by decide +kernel
theorem dX1_keep_25 : decode cX1_keep 25 = .ok (.putfield 17, 3) := by decide +kernel
theorem dX1_keep_28 : decode cX1_keep 28 = .ok (.aload_n 0, 1) := by decide +kernel
theorem dX1_keep_29 : decode cX1_keep 29 = .ok (.bipush 100, 2) := by decide +kernel
theorem dX1_keep_31 : decode cX1_keep 31 = .ok (.aload_n 0, 1) := by decide +kernel
theorem dX1_keep_32 : decode cX1_keep 32 = .ok (.getfield 21, 3) := by decide +kernel
theorem dX1_keep_35 : decode cX1_keep 35 = .ok (.iconst 1, 1) := by decide +kernel
theorem dX1_keep_36 : decode cX1_keep 36 = .ok (.iadd, 1) := by decide +kernel
theorem dX1_keep_37 : decode cX1_keep 37 = .ok (.invokestatic 29, 3) := by decide +kernel
theorem dX1_keep_40 : decode cX1_keep 40 = .ok (.putfield 21, 3) := by decide +kernel
theorem dX1_keep_43 : decode cX1_keep 43 = .ok (.aload_n 2, 1) := by decide +kernel
theorem dX1_keep_44 : decode cX1_keep 44 = .ok (.areturn, 1) := by decide +kernel
theorem dX1_takeBack_0 : decode cX1_takeBack 0 = .ok (.iload_n 1, 1) := by decide +kernel
theorem dX1_takeBack_1 : decode cX1_takeBack 1 = .ok (.iconst 1, 1) := by decide +kernel
theorem dX1_takeBack_2 : decode cX1_takeBack 2 = .ok (.if_icmp .lt 11, 3) := by decide +kernel
theorem dX1_takeBack_5 : decode cX1_takeBack 5 = .ok (.iload_n 1, 1) := by decide +kernel
theorem dX1_takeBack_6 : decode cX1_takeBack 6 = .ok (.aload_n 0, 1) := by decide +kernel
theorem dX1_takeBack_7 : decode cX1_takeBack 7 = .ok (.getfield 21, 3) := by decide +kernel
theorem dX1_takeBack_10 : decode cX1_takeBack 10 = .ok (.if_icmp .le 5, 3) := by decide +kernel
theorem dX1_takeBack_13 : decode cX1_takeBack 13 = .ok (.iconst 0, 1) := by decide +kernel
theorem dX1_takeBack_14 : decode cX1_takeBack 14 = .ok (.ireturn, 1) := by decide +kernel
theorem dX1_takeBack_15 : decode cX1_takeBack 15 = .ok (.aload_n 0, 1) := by decide +kernel
theorem dX1_takeBack_16 : decode cX1_takeBack 16 = .ok (.aload_n 0, 1) := by decide +kernel
theorem dX1_takeBack_17 : decode cX1_takeBack 17 = .ok (.getfield 17, 3) := by decide +kernel
theorem dX1_takeBack_20 : decode cX1_takeBack 20 = .ok (.iload_n 1, 1) := by decide +kernel
theorem dX1_takeBack_21 : decode cX1_takeBack 21 = .ok (.isub, 1) := by decide +kernel
theorem dX1_takeBack_22 : decode cX1_takeBack 22 = .ok (.bipush 100, 2) := by decide +kernel
theorem dX1_takeBack_24 : decode cX1_takeBack 24 = .ok (.iadd, 1) := by decide +kernel
theorem dX1_takeBack_25 : decode cX1_takeBack 25 = .ok (.bipush 100, 2) := by decide +kernel
theorem dX1_takeBack_27 : decode cX1_takeBack 27 = .ok (.irem, 1) := by decide +kernel
theorem dX1_takeBack_28 : decode cX1_takeBack 28 = .ok (.putfield 17, 3) := by decide +kernel
theorem dX1_takeBack_31 : decode cX1_takeBack 31 = .ok (.aload_n 0, 1) := by decide +kernel
theorem dX1_takeBack_32 : decode cX1_takeBack 32 = .ok (.dup, 1) := by decide +kernel
theorem dX1_takeBack_33 : decode cX1_takeBack 33 = .ok (.getfield 21, 3) := by decide +kernel
theorem dX1_takeBack_36 : decode cX1_takeBack 36 = .ok (.iload_n 1, 1) := by decide +kernel
theorem dX1_takeBack_37 : decode cX1_takeBack 37 = .ok (.isub, 1) := by decide +kernel
theorem dX1_takeBack_38 : decode cX1_takeBack 38 = .ok (.putfield 21, 3) := by decide +kernel
theorem dX1_takeBack_41 : decode cX1_takeBack 41 = .ok (.aload_n 2, 1) := by decide +kernel
theorem dX1_takeBack_42 : decode cX1_takeBack 42 = .ok (.aload_n 0, 1) := by decide +kernel
theorem dX1_takeBack_43 : decode cX1_takeBack 43 = .ok (.getfield 11, 3) := by decide +kernel
theorem dX1_takeBack_46 : decode cX1_takeBack 46 = .ok (.aload_n 0, 1) := by decide +kernel
theorem dX1_takeBack_47 : decode cX1_takeBack 47 = .ok (.getfield 17, 3) := by decide +kernel
theorem dX1_takeBack_50 : decode cX1_takeBack 50 = .ok (.aaload, 1) := by decide +kernel
theorem dX1_takeBack_51 : decode cX1_takeBack 51 = .ok (.invokevirtual 25, 3) := by decide +kernel
theorem dX1_takeBack_54 : decode cX1_takeBack 54 = .ok (.iconst 1, 1) := by decide +kernel
theorem dX1_takeBack_55 : decode cX1_takeBack 55 = .ok (.ireturn, 1) := by decide +kernel
theorem dX2_init_0 : decode cX2_init 0 = .ok (.aload_n 0, 1) := by decide +kernel
theorem dX2_init_1 : decode cX2_init 1 = .ok (.invokespecial 3, 3) := by decide +kernel
theorem dX2_init_4 : decode cX2_init 4 = .ok (.aload_n 0, 1) := by decide +kernel
theorem dX2_init_5 : decode cX2_init 5 = .ok (.new 9, 3) := by decide +kernel
theorem dX2_init_8 : decode cX2_init 8 = .ok (.dup, 1) := by decide +kernel
theorem dX2_init_9 : decode cX2_init 9 = .ok (.invokespecial 11, 3) := by decide +kernel
theorem dX2_init_12 : decode cX2_init 12 = .ok (.putfield 12, 3) := by decide +kernel
theorem dX2_init_15 : decode cX2_init 15 = .ok (.aload_n 0, 1) := by decide +kernel
theorem dX2_init_16 : decode cX2_init 16 = .ok (.new 18, 3) := by decide +kernel
theorem dX2_init_19 : decode cX2_init 19 = .ok (.dup, 1) := by decide +kernel
theorem dX2_init_20 : decode cX2_init 20 = .ok (.invokespecial 20, 3) := by decide +kernel
theorem dX2_init_23 : decode cX2_init 23 = .ok (.putfield 21, 3) := by decide +kernel
theorem dX2_init_26 : decode cX2_init 26 = .ok (.aload_n 0, 1) := by decide +kernel
theorem dX2_init_27 : decode cX2_init 27 = .ok (.new 25, 3) := by decide +kernel
theorem dX2_init_30 : decode cX2_init 30 = .ok (.dup, 1) := by decide +kernel
theorem dX2_init_31 : decode cX2_init 31 = .ok (.invokespecial 27, 3) := by decide +kernel
theorem dX2_init_34 : decode cX2_init 34 = .ok (.putfield 28, 3) := by decide +kernel
theorem dX2_init_37 : decode cX2_init 37 = .ok (.return_, 1) := by decide +kernel
theorem dX2_step_0 : decode cX2_step 0 = .ok (.aload_n 1, 1) := by decide +kernel
theorem dX2_step_1 : decode cX2_step 1 = .ok (.dup, 1) := by decide +kernel
theorem dX2_step_2 : decode cX2_step 2 = .ok (.getfield 32, 3) := by decide +kernel
theorem dX2_step_5 : decode cX2_step 5 = .ok (.iconst 1, 1) := by decide +kernel
theorem dX2_step_6 : decode cX2_step 6 = .ok (.iadd, 1) := by decide +kernel
theorem dX2_step_7 : decode cX2_step 7 = .ok (.putfield 32, 3) := by decide +kernel
theorem dX2_step_10 : decode cX2_step 10 = .ok (.aload_n 0, 1) := by decide +kernel
theorem dX2_step_11 : decode cX2_step 11 = .ok (.aload_n 1, 1) := by decide +kernel
theorem dX2_step_12 : decode cX2_step 12 = .ok (.invokevirtual 38, 3) := by decide +kernel
theorem dX2_step_15 : decode cX2_step 15 = .ok (.iconst 0, 1) := by decide +kernel
theorem dX2_step_16 : decode cX2_step 16 = .ok (.istore 5, 2) := by decide +kernel
theorem dX2_step_18 : decode cX2_step 18 = .ok (.iload 5, 2) := by decide +kernel
theorem dX2_step_20 : decode cX2_step 20 = .ok (.aload_n 0, 1) := by decide +kernel
theorem dX2_step_21 : decode cX2_step 21 = .ok (.getfield 12, 3) := by decide +kernel
theorem dX2_step_24 : decode cX2_step 24 = .ok (.getfield 42, 3) := by decide +kernel
theorem dX2_step_27 : decode cX2_step 27 = .ok (.iconst 0, 1) := by decide +kernel
theorem dX2_step_28 : decode cX2_step 28 = .ok (.iaload, 1) := by decide +kernel
theorem dX2_step_29 : decode cX2_step 29 = .ok (.if_icmp .ge 68, 3) := by decide +kernel
theorem dX2_step_32 : decode cX2_step 32 = .ok (.iload 5, 2) := by decide +kernel
theorem dX2_step_34 : decode cX2_step 34 = .ok (.iload_n 2, 1) := by decide +kernel
theorem dX2_step_35 : decode cX2_step 35 = .ok (.if_icmp .ne 12, 3) := by decide +kernel
theorem dX2_step_38 : decode cX2_step 38 = .ok (.aload_n 1, 1) := by decide +kernel
theorem dX2_step_39 : decode cX2_step 39 = .ok (.iload 5, 2) := by decide +kernel
theorem dX2_step_41 : decode cX2_step 41 = .ok (.invokevirtual 46, 3) := by decide +kernel
theorem dX2_step_44 : decode cX2_step 44 = .ok (.goto 28, 3) := by decide +kernel
theorem dX2_step_47 : decode cX2_step 47 = .ok (.lload_n 3, 1) := by decide +kernel
theorem dX2_step_48 : decode cX2_step 48 = .ok (.iload 5, 2) := by decide +kernel
theorem dX2_step_50 : decode cX2_step 50 = .ok (.lshr, 1) := by decide +kernel
theorem dX2_step_51 : decode cX2_step 51 = .ok (.lconst 1, 1) := by decide +kernel
theorem dX2_step_52 : decode cX2_step 52 = .ok (.land, 1) := by decide +kernel
theorem dX2_step_53 : decode cX2_step 53 = .ok (.lconst 0, 1) := by decide +kernel
theorem dX2_step_54 : decode cX2_step 54 = .ok (.lcmp, 1) := by decide +kernel
theorem dX2_step_55 : decode cX2_step 55 = .ok (.ifCond .ne 17, 3) := by decide +kernel
theorem dX2_step_58 : decode cX2_step 58 = .ok (.aload_n 0, 1) := by decide +kernel
theorem dX2_step_59 : decode cX2_step 59 = .ok (.aload_n 1, 1) := by decide +kernel
theorem dX2_step_60 : decode cX2_step 60 = .ok (.iload 5, 2) := by decide +kernel
theorem dX2_step_62 : decode cX2_step 62 = .ok (.aload_n 0, 1) := by decide +kernel
theorem dX2_step_63 : decode cX2_step 63 = .ok (.iconst 0, 1) := by decide +kernel
theorem dX2_step_64 : decode cX2_step 64 = .ok (.iload 5, 2) := by decide +kernel
theorem dX2_step_66 : decode cX2_step 66 = .ok (.invokevirtual 50, 3) := by decide +kernel
theorem dX2_step_69 : decode cX2_step 69 = .ok (.invokevirtual 54, 3) := by decide +kernel
theorem dX2_step_72 : decode cX2_step 72 = .ok (.aload_n 0, 1) := by decide +kernel
theorem dX2_step_73 : decode cX2_step 73 = .ok (.getfield 12, 3) := by decide +kernel
theorem dX2_step_76 : decode cX2_step 76 = .ok (.getfield 58, 3) := by decide +kernel
theorem dX2_step_79 : decode cX2_step 79 = .ok (.iload 5, 2) := by decide +kernel
theorem dX2_step_81 : decode cX2_step 81 = .ok (.iaload, 1) := by decide +kernel
theorem dX2_step_82 : decode cX2_step 82 = .ok (.ifCond .le 9, 3) := by decide +kernel
theorem dX2_step_85 : decode cX2_step 85 = .ok (.aload_n 1, 1) := by decide +kernel
theorem dX2_step_86 : decode cX2_step 86 = .ok (.iload 5, 2) := by decide +kernel
theorem dX2_step_88 : decode cX2_step 88 = .ok (.invokevirtual 61, 3) := by decide +kernel
theorem dX2_step_91 : decode cX2_step 91 = .ok (.iinc 5 1, 3) := by decide +kernel
theorem dX2_step_94 : decode cX2_step 94 = .ok (.goto (-76), 3) := by decide +kernel
theorem dX2_step_97 : decode cX2_step 97 = .ok (.return_, 1) := by decide +kernel
theorem dX2_runCoil_0 : decode cX2_runCoil 0 = .ok (.aload_n 1, 1) := by decide +kernel
theorem dX2_runCoil_1 : decode cX2_runCoil 1 = .ok (.iload_n 2, 1) := by decide +kernel
theorem dX2_runCoil_2 : decode cX2_runCoil 2 = .ok (.invokevirtual 64, 3) := by decide +kernel
theorem dX2_runCoil_5 : decode cX2_runCoil 5 = .ok (.istore 4, 2) := by decide +kernel
theorem dX2_runCoil_7 : decode cX2_runCoil 7 = .ok (.iload 4, 2) := by decide +kernel
theorem dX2_runCoil_9 : decode cX2_runCoil 9 = .ok (.iload_n 3, 1) := by decide +kernel
theorem dX2_runCoil_10 : decode cX2_runCoil 10 = .ok (.if_icmp .ne 11, 3) := by decide +kernel
theorem dX2_runCoil_13 : decode cX2_runCoil 13 = .ok (.aload_n 1, 1) := by decide +kernel
theorem dX2_runCoil_14 : decode cX2_runCoil 14 = .ok (.getfield 68, 3) := by decide +kernel
theorem dX2_runCoil_17 : decode cX2_runCoil 17 = .ok (.iload_n 2, 1) := by decide +kernel
theorem dX2_runCoil_18 : decode cX2_runCoil 18 = .ok (.iconst 0, 1) := by decide +kernel
theorem dX2_runCoil_19 : decode cX2_runCoil 19 = .ok (.iastore, 1) := by decide +kernel
theorem dX2_runCoil_20 : decode cX2_runCoil 20 = .ok (.return_, 1) := by decide +kernel
theorem dX2_runCoil_21 : decode cX2_runCoil 21 = .ok (.aload_n 1, 1) := by decide +kernel
theorem dX2_runCoil_22 : decode cX2_runCoil 22 = .ok (.getfield 68, 3) := by decide +kernel
theorem dX2_runCoil_25 : decode cX2_runCoil 25 = .ok (.iload_n 2, 1) := by decide +kernel
theorem dX2_runCoil_26 : decode cX2_runCoil 26 = .ok (.dup2, 1) := by decide +kernel
theorem dX2_runCoil_27 : decode cX2_runCoil 27 = .ok (.iaload, 1) := by decide +kernel
theorem dX2_runCoil_28 : decode cX2_runCoil 28 = .ok (.iconst 1, 1) := by decide +kernel
theorem dX2_runCoil_29 : decode cX2_runCoil 29 = .ok (.iadd, 1) := by decide +kernel
theorem dX2_runCoil_30 : decode cX2_runCoil 30 = .ok (.iastore, 1) := by decide +kernel
theorem dX2_runCoil_31 : decode cX2_runCoil 31 = .ok (.aload_n 1, 1) := by decide +kernel
theorem dX2_runCoil_32 : decode cX2_runCoil 32 = .ok (.getfield 68, 3) := by decide +kernel
theorem dX2_runCoil_35 : decode cX2_runCoil 35 = .ok (.iload_n 2, 1) := by decide +kernel
theorem dX2_runCoil_36 : decode cX2_runCoil 36 = .ok (.iaload, 1) := by decide +kernel
theorem dX2_runCoil_37 : decode cX2_runCoil 37 = .ok (.iload 4, 2) := by decide +kernel
theorem dX2_runCoil_39 : decode cX2_runCoil 39 = .ok (.ifCond .eq 15, 3) := by decide +kernel
theorem dX2_runCoil_42 : decode cX2_runCoil 42 = .ok (.aload_n 0, 1) := by decide +kernel
theorem dX2_runCoil_43 : decode cX2_runCoil 43 = .ok (.getfield 12, 3) := by decide +kernel
theorem dX2_runCoil_46 : decode cX2_runCoil 46 = .ok (.getfield 71, 3) := by decide +kernel
theorem dX2_runCoil_49 : decode cX2_runCoil 49 = .ok (.iload_n 2, 1) := by decide +kernel
theorem dX2_runCoil_50 : decode cX2_runCoil 50 = .ok (.iaload, 1) := by decide +kernel
theorem dX2_runCoil_51 : decode cX2_runCoil 51 = .ok (.goto 12, 3) := by decide +kernel
theorem dX2_runCoil_54 : decode cX2_runCoil 54 = .ok (.aload_n 0, 1) := by decide +kernel
theorem dX2_runCoil_55 : decode cX2_runCoil 55 = .ok (.getfield 12, 3) := by decide +kernel
theorem dX2_runCoil_58 : decode cX2_runCoil 58 = .ok (.getfield 74, 3) := by decide +kernel
theorem dX2_runCoil_61 : decode cX2_runCoil 61 = .ok (.iload_n 2, 1) := by decide +kernel
theorem dX2_runCoil_62 : decode cX2_runCoil 62 = .ok (.iaload, 1) := by decide +kernel
theorem dX2_runCoil_63 : decode cX2_runCoil 63 = .ok (.if_icmp .lt 8, 3) := by decide +kernel
theorem dX2_runCoil_66 : decode cX2_runCoil 66 = .ok (.aload_n 1, 1) := by decide +kernel
theorem dX2_runCoil_67 : decode cX2_runCoil 67 = .ok (.iload_n 2, 1) := by decide +kernel
theorem dX2_runCoil_68 : decode cX2_runCoil 68 = .ok (.invokevirtual 46, 3) := by decide +kernel
theorem dX2_runCoil_71 : decode cX2_runCoil 71 = .ok (.return_, 1) := by decide +kernel
theorem dX2_settle_0 : decode cX2_settle 0 = .ok (.aload_n 0, 1) := by decide +kernel
theorem dX2_settle_1 : decode cX2_settle 1 = .ok (.getfield 28, 3) := by decide +kernel
theorem dX2_settle_4 : decode cX2_settle 4 = .ok (.aload_n 0, 1) := by decide +kernel
theorem dX2_settle_5 : decode cX2_settle 5 = .ok (.getfield 12, 3) := by decide +kernel
theorem dX2_settle_8 : decode cX2_settle 8 = .ok (.getfield 77, 3) := by decide +kernel
theorem dX2_settle_11 : decode cX2_settle 11 = .ok (.invokevirtual 80, 3) := by decide +kernel
theorem dX2_settle_14 : decode cX2_settle 14 = .ok (.iconst 0, 1) := by decide +kernel
theorem dX2_settle_15 : decode cX2_settle 15 = .ok (.istore_n 2, 1) := by decide +kernel
theorem dX2_settle_16 : decode cX2_settle 16 = .ok (.iload_n 2, 1) := by decide +kernel
theorem dX2_settle_17 : decode cX2_settle 17 = .ok (.aload_n 0, 1) := by decide +kernel
theorem dX2_settle_18 : decode cX2_settle 18 = .ok (.getfield 12, 3) := by decide +kernel
theorem dX2_settle_21 : decode cX2_settle 21 = .ok (.getfield 42, 3) := by decide +kernel
theorem dX2_settle_24 : decode cX2_settle 24 = .ok (.iconst 0, 1) := by decide +kernel
theorem dX2_settle_25 : decode cX2_settle 25 = .ok (.iaload, 1) := by decide +kernel
theorem dX2_settle_26 : decode cX2_settle 26 = .ok (.if_icmp .ge 42, 3) := by decide +kernel
theorem dX2_settle_29 : decode cX2_settle 29 = .ok (.iconst 1, 1) := by decide +kernel
theorem dX2_settle_30 : decode cX2_settle 30 = .ok (.istore_n 3, 1) := by decide +kernel
theorem dX2_settle_31 : decode cX2_settle 31 = .ok (.iload_n 3, 1) := by decide +kernel
theorem dX2_settle_32 : decode cX2_settle 32 = .ok (.aload_n 0, 1) := by decide +kernel
theorem dX2_settle_33 : decode cX2_settle 33 = .ok (.getfield 12, 3) := by decide +kernel
theorem dX2_settle_36 : decode cX2_settle 36 = .ok (.getfield 58, 3) := by decide +kernel
theorem dX2_settle_39 : decode cX2_settle 39 = .ok (.iload_n 2, 1) := by decide +kernel
theorem dX2_settle_40 : decode cX2_settle 40 = .ok (.iaload, 1) := by decide +kernel
theorem dX2_settle_41 : decode cX2_settle 41 = .ok (.if_icmp .gt 21, 3) := by decide +kernel
theorem dX2_settle_44 : decode cX2_settle 44 = .ok (.aload_n 0, 1) := by decide +kernel
theorem dX2_settle_45 : decode cX2_settle 45 = .ok (.iload_n 2, 1) := by decide +kernel
theorem dX2_settle_46 : decode cX2_settle 46 = .ok (.iload_n 3, 1) := by decide +kernel
theorem dX2_settle_47 : decode cX2_settle 47 = .ok (.aload_n 1, 1) := by decide +kernel
theorem dX2_settle_48 : decode cX2_settle 48 = .ok (.getfield 83, 3) := by decide +kernel
theorem dX2_settle_51 : decode cX2_settle 51 = .ok (.iload_n 2, 1) := by decide +kernel
theorem dX2_settle_52 : decode cX2_settle 52 = .ok (.iaload, 1) := by decide +kernel
theorem dX2_settle_53 : decode cX2_settle 53 = .ok (.invokevirtual 86, 3) := by decide +kernel
theorem dX2_settle_56 : decode cX2_settle 56 = .ok (.iinc 3 1, 3) := by decide +kernel
theorem dX2_settle_59 : decode cX2_settle 59 = .ok (.goto (-28), 3) := by decide +kernel
theorem dX2_settle_62 : decode cX2_settle 62 = .ok (.iinc 2 1, 3) := by decide +kernel
theorem dX2_settle_65 : decode cX2_settle 65 = .ok (.goto (-49), 3) := by decide +kernel
theorem dX2_settle_68 : decode cX2_settle 68 = .ok (.iconst 0, 1) := by decide +kernel
theorem dX2_settle_69 : decode cX2_settle 69 = .ok (.istore_n 2, 1) := by decide +kernel
theorem dX2_settle_70 : decode cX2_settle 70 = .ok (.iload_n 2, 1) := by decide +kernel
theorem dX2_settle_71 : decode cX2_settle 71 = .ok (.aload_n 0, 1) := by decide +kernel
theorem dX2_settle_72 : decode cX2_settle 72 = .ok (.getfield 12, 3) := by decide +kernel
theorem dX2_settle_75 : decode cX2_settle 75 = .ok (.getfield 42, 3) := by decide +kernel
theorem dX2_settle_78 : decode cX2_settle 78 = .ok (.iconst 1, 1) := by decide +kernel
theorem dX2_settle_79 : decode cX2_settle 79 = .ok (.iaload, 1) := by decide +kernel
theorem dX2_settle_80 : decode cX2_settle 80 = .ok (.if_icmp .ge 31, 3) := by decide +kernel
theorem dX2_settle_83 : decode cX2_settle 83 = .ok (.aload_n 1, 1) := by decide +kernel
theorem dX2_settle_84 : decode cX2_settle 84 = .ok (.iload_n 2, 1) := by decide +kernel
theorem dX2_settle_85 : decode cX2_settle 85 = .ok (.invokevirtual 90, 3) := by decide +kernel
theorem dX2_settle_88 : decode cX2_settle 88 = .ok (.ifCond .eq 17, 3) := by decide +kernel
theorem dX2_settle_91 : decode cX2_settle 91 = .ok (.aload_n 0, 1) := by decide +kernel
theorem dX2_settle_92 : decode cX2_settle 92 = .ok (.getstatic 93, 3) := by decide +kernel
theorem dX2_settle_95 : decode cX2_settle 95 = .ok (.iconst 1, 1) := by decide +kernel
theorem dX2_settle_96 : decode cX2_settle 96 = .ok (.iaload, 1) := by decide +kernel
theorem dX2_settle_97 : decode cX2_settle 97 = .ok (.iconst 2, 1) := by decide +kernel
theorem dX2_settle_98 : decode cX2_settle 98 = .ok (.iload_n 2, 1) := by decide +kernel
theorem dX2_settle_99 : decode cX2_settle 99 = .ok (.imul, 1) := by decide +kernel
theorem dX2_settle_100 : decode cX2_settle 100 = .ok (.iadd, 1) := by decide +kernel
theorem dX2_settle_101 : decode cX2_settle 101 = .ok (.iconst 3, 1) := by decide +kernel
theorem dX2_settle_102 : decode cX2_settle 102 = .ok (.invokevirtual 96, 3) := by decide +kernel
theorem dX2_settle_105 : decode cX2_settle 105 = .ok (.iinc 2 1, 3) := by decide +kernel
theorem dX2_settle_108 : decode cX2_settle 108 = .ok (.goto (-38), 3) := by decide +kernel
theorem dX2_settle_111 : decode cX2_settle 111 = .ok (.iconst 0, 1) := by decide +kernel
theorem dX2_settle_112 : decode cX2_settle 112 = .ok (.istore_n 2, 1) := by decide +kernel
theorem dX2_settle_113 : decode cX2_settle 113 = .ok (.iload_n 2, 1) := by decide +kernel
theorem dX2_settle_114 : decode cX2_settle 114 = .ok (.aload_n 0, 1) := by decide +kernel
theorem dX2_settle_115 : decode cX2_settle 115 = .ok (.getfield 12, 3) := by decide +kernel
theorem dX2_settle_118 : decode cX2_settle 118 = .ok (.getfield 42, 3) := by decide +kernel
theorem dX2_settle_121 : decode cX2_settle 121 = .ok (.iconst 3, 1) := by decide +kernel
theorem dX2_settle_122 : decode cX2_settle 122 = .ok (.iaload, 1) := by decide +kernel
theorem dX2_settle_123 : decode cX2_settle 123 = .ok (.if_icmp .ge 38, 3) := by decide +kernel
theorem dX2_settle_126 : decode cX2_settle 126 = .ok (.aload_n 0, 1) := by decide +kernel
theorem dX2_settle_127 : decode cX2_settle 127 = .ok (.getfield 12, 3) := by decide +kernel
theorem dX2_settle_130 : decode cX2_settle 130 = .ok (.iload_n 2, 1) := by decide +kernel
theorem dX2_settle_131 : decode cX2_settle 131 = .ok (.aload_n 1, 1) := by decide +kernel
theorem dX2_settle_132 : decode cX2_settle 132 = .ok (.getfield 32, 3) := by decide +kernel
theorem dX2_settle_135 : decode cX2_settle 135 = .ok (.invokevirtual 100, 3) := by decide +kernel
theorem dX2_settle_138 : decode cX2_settle 138 = .ok (.ifCond .eq 17, 3) := by decide +kernel
theorem dX2_settle_141 : decode cX2_settle 141 = .ok (.aload_n 0, 1) := by decide +kernel
theorem dX2_settle_142 : decode cX2_settle 142 = .ok (.getstatic 93, 3) := by decide +kernel
theorem dX2_settle_145 : decode cX2_settle 145 = .ok (.iconst 3, 1) := by decide +kernel
theorem dX2_settle_146 : decode cX2_settle 146 = .ok (.iaload, 1) := by decide +kernel
theorem dX2_settle_147 : decode cX2_settle 147 = .ok (.iconst 2, 1) := by decide +kernel
theorem dX2_settle_148 : decode cX2_settle 148 = .ok (.iload_n 2, 1) := by decide +kernel
theorem dX2_settle_149 : decode cX2_settle 149 = .ok (.imul, 1) := by decide +kernel
theorem dX2_settle_150 : decode cX2_settle 150 = .ok (.iadd, 1) := by decide +kernel
theorem dX2_settle_151 : decode cX2_settle 151 = .ok (.iconst 3, 1) := by decide +kernel
theorem dX2_settle_152 : decode cX2_settle 152 = .ok (.invokevirtual 96, 3) := by decide +kernel
theorem dX2_settle_155 : decode cX2_settle 155 = .ok (.iinc 2 1, 3) := by decide +kernel
theorem dX2_settle_158 : decode cX2_settle 158 = .ok (.goto (-45), 3) := by decide +kernel
theorem dX2_settle_161 : decode cX2_settle 161 = .ok (.iconst 0, 1) := by decide +kernel
theorem dX2_settle_162 : decode cX2_settle 162 = .ok (.istore_n 2, 1) := by decide +kernel
theorem dX2_settle_163 : decode cX2_settle 163 = .ok (.iload_n 2, 1) := by decide +kernel
theorem dX2_settle_164 : decode cX2_settle 164 = .ok (.aload_n 0, 1) := by decide +kernel
theorem dX2_settle_165 : decode cX2_settle 165 = .ok (.getfield 12, 3) := by decide +kernel
theorem dX2_settle_168 : decode cX2_settle 168 = .ok (.getfield 42, 3) := by decide +kernel
theorem dX2_settle_171 : decode cX2_settle 171 = .ok (.iconst 4, 1) := by decide +kernel
theorem dX2_settle_172 : decode cX2_settle 172 = .ok (.iaload, 1) := by decide +kernel
theorem dX2_settle_173 : decode cX2_settle 173 = .ok (.if_icmp .ge 23, 3) := by decide +kernel
theorem dX2_settle_176 : decode cX2_settle 176 = .ok (.aload_n 0, 1) := by decide +kernel
theorem dX2_settle_177 : decode cX2_settle 177 = .ok (.getstatic 93, 3) := by decide +kernel
theorem dX2_settle_180 : decode cX2_settle 180 = .ok (.iconst 4, 1) := by decide +kernel
theorem dX2_settle_181 : decode cX2_settle 181 = .ok (.iaload, 1) := by decide +kernel
theorem dX2_settle_182 : decode cX2_settle 182 = .ok (.iconst 2, 1) := by decide +kernel
theorem dX2_settle_183 : decode cX2_settle 183 = .ok (.iload_n 2, 1) := by decide +kernel
theorem dX2_settle_184 : decode cX2_settle 184 = .ok (.imul, 1) := by decide +kernel
theorem dX2_settle_185 : decode cX2_settle 185 = .ok (.iadd, 1) := by decide +kernel
theorem dX2_settle_186 : decode cX2_settle 186 = .ok (.iconst 1, 1) := by decide +kernel
theorem dX2_settle_187 : decode cX2_settle 187 = .ok (.invokevirtual 96, 3) := by decide +kernel
theorem dX2_settle_190 : decode cX2_settle 190 = .ok (.iinc 2 1, 3) := by decide +kernel
theorem dX2_settle_193 : decode cX2_settle 193 = .ok (.goto (-30), 3) := by decide +kernel
theorem dX2_settle_196 : decode cX2_settle 196 = .ok (.aload_n 0, 1) := by decide +kernel
theorem dX2_settle_197 : decode cX2_settle 197 = .ok (.getfield 28, 3) := by decide +kernel
theorem dX2_settle_200 : decode cX2_settle 200 = .ok (.aload_n 0, 1) := by decide +kernel
theorem dX2_settle_201 : decode cX2_settle 201 = .ok (.getfield 12, 3) := by decide +kernel
theorem dX2_settle_204 : decode cX2_settle 204 = .ok (.getfield 103, 3) := by decide +kernel
theorem dX2_settle_207 : decode cX2_settle 207 = .ok (.getstatic 93, 3) := by decide +kernel
theorem dX2_settle_210 : decode cX2_settle 210 = .ok (.iconst 5, 1) := by decide +kernel
theorem dX2_settle_211 : decode cX2_settle 211 = .ok (.iaload, 1) := by decide +kernel
theorem dX2_settle_212 : decode cX2_settle 212 = .ok (.iaload, 1) := by decide +kernel
theorem dX2_settle_213 : decode cX2_settle 213 = .ok (.iconst 1, 1) := by decide +kernel
theorem dX2_settle_214 : decode cX2_settle 214 = .ok (.invokevirtual 106, 3) := by decide +kernel
theorem dX2_settle_217 : decode cX2_settle 217 = .ok (.aload_n 0, 1) := by decide +kernel
theorem dX2_settle_218 : decode cX2_settle 218 = .ok (.getfield 28, 3) := by decide +kernel
theorem dX2_settle_221 : decode cX2_settle 221 = .ok (.aload_n 0, 1) := by decide +kernel
theorem dX2_settle_222 : decode cX2_settle 222 = .ok (.getfield 12, 3) := by decide +kernel
theorem dX2_settle_225 : decode cX2_settle 225 = .ok (.getfield 103, 3) := by decide +kernel
theorem dX2_settle_228 : decode cX2_settle 228 = .ok (.getstatic 93, 3) := by decide +kernel
theorem dX2_settle_231 : decode cX2_settle 231 = .ok (.iconst 5, 1) := by decide +kernel
theorem dX2_settle_232 : decode cX2_settle 232 = .ok (.iaload, 1) := by decide +kernel
theorem dX2_settle_233 : decode cX2_settle 233 = .ok (.iconst 1, 1) := by decide +kernel
theorem dX2_settle_234 : decode cX2_settle 234 = .ok (.iadd, 1) := by decide +kernel
theorem dX2_settle_235 : decode cX2_settle 235 = .ok (.iaload, 1) := by decide +kernel
theorem dX2_settle_236 : decode cX2_settle 236 = .ok (.iconst 2, 1) := by decide +kernel
theorem dX2_settle_237 : decode cX2_settle 237 = .ok (.invokevirtual 106, 3) := by decide +kernel
theorem dX2_settle_240 : decode cX2_settle 240 = .ok (.return_, 1) := by decide +kernel
theorem dX2_joinContact_0 : decode cX2_joinContact 0 = .ok (.iload_n 1, 1) := by decide +kernel
theorem dX2_joinContact_1 : decode cX2_joinContact 1 = .ok (.iload_n 2, 1) := by decide +kernel
theorem dX2_joinContact_2 : decode cX2_joinContact 2 = .ok (.invokestatic 109, 3) := by decide +kernel
theorem dX2_joinContact_5 : decode cX2_joinContact 5 = .ok (.istore 4, 2) := by decide +kernel
theorem dX2_joinContact_7 : decode cX2_joinContact 7 = .ok (.aload_n 0, 1) := by decide +kernel
theorem dX2_joinContact_8 : decode cX2_joinContact 8 = .ok (.getfield 21, 3) := by decide +kernel
theorem dX2_joinContact_11 : decode cX2_joinContact 11 = .ok (.getfield 113, 3) := by decide +kernel
theorem dX2_joinContact_14 : decode cX2_joinContact 14 = .ok (.iload 4, 2) := by decide +kernel
theorem dX2_joinContact_16 : decode cX2_joinContact 16 = .ok (.baload, 1) := by decide +kernel
theorem dX2_joinContact_17 : decode cX2_joinContact 17 = .ok (.ifCond .eq 4, 3) := by decide +kernel
theorem dX2_joinContact_20 : decode cX2_joinContact 20 = .ok (.return_, 1) := by decide +kernel
theorem dX2_joinContact_21 : decode cX2_joinContact 21 = .ok (.aload_n 0, 1) := by decide +kernel
theorem dX2_joinContact_22 : decode cX2_joinContact 22 = .ok (.getfield 21, 3) := by decide +kernel
theorem dX2_joinContact_25 : decode cX2_joinContact 25 = .ok (.getfield 117, 3) := by decide +kernel
theorem dX2_joinContact_28 : decode cX2_joinContact 28 = .ok (.iload 4, 2) := by decide +kernel
theorem dX2_joinContact_30 : decode cX2_joinContact 30 = .ok (.iaload, 1) := by decide +kernel
theorem dX2_joinContact_31 : decode cX2_joinContact 31 = .ok (.iconst (-1), 1) := by decide +kernel
theorem dX2_joinContact_32 : decode cX2_joinContact 32 = .ok (.if_icmp .ne 7, 3) := by decide +kernel
theorem dX2_joinContact_35 : decode cX2_joinContact 35 = .ok (.iload_n 3, 1) := by decide +kernel
theorem dX2_joinContact_36 : decode cX2_joinContact 36 = .ok (.goto 13, 3) := by decide +kernel
theorem dX2_joinContact_39 : decode cX2_joinContact 39 = .ok (.aload_n 0, 1) := by decide +kernel
theorem dX2_joinContact_40 : decode cX2_joinContact 40 = .ok (.getfield 21, 3) := by decide +kernel
theorem dX2_joinContact_43 : decode cX2_joinContact 43 = .ok (.getfield 117, 3) := by decide +kernel
theorem dX2_joinContact_46 : decode cX2_joinContact 46 = .ok (.iload 4, 2) := by decide +kernel
theorem dX2_joinContact_48 : decode cX2_joinContact 48 = .ok (.iaload, 1) := by decide +kernel
theorem dX2_joinContact_49 : decode cX2_joinContact 49 = .ok (.istore 5, 2) := by decide +kernel
theorem dX2_joinContact_51 : decode cX2_joinContact 51 = .ok (.iload 5, 2) := by decide +kernel
theorem dX2_joinContact_53 : decode cX2_joinContact 53 = .ok (.iconst 1, 1) := by decide +kernel
theorem dX2_joinContact_54 : decode cX2_joinContact 54 = .ok (.if_icmp .ne 19, 3) := by decide +kernel
theorem dX2_joinContact_57 : decode cX2_joinContact 57 = .ok (.aload_n 0, 1) := by decide +kernel
theorem dX2_joinContact_58 : decode cX2_joinContact 58 = .ok (.getfield 12, 3) := by decide +kernel
theorem dX2_joinContact_61 : decode cX2_joinContact 61 = .ok (.iload_n 1, 1) := by decide +kernel
theorem dX2_joinContact_62 : decode cX2_joinContact 62 = .ok (.iload_n 2, 1) := by decide +kernel
theorem dX2_joinContact_63 : decode cX2_joinContact 63 = .ok (.invokevirtual 120, 3) := by decide +kernel
theorem dX2_joinContact_66 : decode cX2_joinContact 66 = .ok (.ifCond .eq 7, 3) := by decide +kernel
theorem dX2_joinContact_69 : decode cX2_joinContact 69 = .ok (.iconst 1, 1) := by decide +kernel
theorem dX2_joinContact_70 : decode cX2_joinContact 70 = .ok (.goto 4, 3) := by decide +kernel
theorem dX2_joinContact_73 : decode cX2_joinContact 73 = .ok (.iconst 0, 1) := by decide +kernel
theorem dX2_joinContact_74 : decode cX2_joinContact 74 = .ok (.istore 6, 2) := by decide +kernel
theorem dX2_joinContact_76 : decode cX2_joinContact 76 = .ok (.getstatic 93, 3) := by decide +kernel
theorem dX2_joinContact_79 : decode cX2_joinContact 79 = .ok (.iconst 0, 1) := by decide +kernel
theorem dX2_joinContact_80 : decode cX2_joinContact 80 = .ok (.iaload, 1) := by decide +kernel
theorem dX2_joinContact_81 : decode cX2_joinContact 81 = .ok (.iload_n 1, 1) := by decide +kernel
theorem dX2_joinContact_82 : decode cX2_joinContact 82 = .ok (.bipush 20, 2) := by decide +kernel
theorem dX2_joinContact_84 : decode cX2_joinContact 84 = .ok (.imul, 1) := by decide +kernel
theorem dX2_joinContact_85 : decode cX2_joinContact 85 = .ok (.iadd, 1) := by decide +kernel
theorem dX2_joinContact_86 : decode cX2_joinContact 86 = .ok (.iconst 3, 1) := by decide +kernel
theorem dX2_joinContact_87 : decode cX2_joinContact 87 = .ok (.iload_n 2, 1) := by decide +kernel
theorem dX2_joinContact_88 : decode cX2_joinContact 88 = .ok (.imul, 1) := by decide +kernel
theorem dX2_joinContact_89 : decode cX2_joinContact 89 = .ok (.iadd, 1) := by decide +kernel
theorem dX2_joinContact_90 : decode cX2_joinContact 90 = .ok (.iconst 1, 1) := by decide +kernel
theorem dX2_joinContact_91 : decode cX2_joinContact 91 = .ok (.isub, 1) := by decide +kernel
theorem dX2_joinContact_92 : decode cX2_joinContact 92 = .ok (.istore 7, 2) := by decide +kernel
theorem dX2_joinContact_94 : decode cX2_joinContact 94 = .ok (.aload_n 0, 1) := by decide +kernel
theorem dX2_joinContact_95 : decode cX2_joinContact 95 = .ok (.getfield 12, 3) := by decide +kernel
theorem dX2_joinContact_98 : decode cX2_joinContact 98 = .ok (.getfield 103, 3) := by decide +kernel
theorem dX2_joinContact_101 : decode cX2_joinContact 101 = .ok (.iload 7, 2) := by decide +kernel
theorem dX2_joinContact_103 : decode cX2_joinContact 103 = .ok (.iaload, 1) := by decide +kernel
theorem dX2_joinContact_104 : decode cX2_joinContact 104 = .ok (.istore 8, 2) := by decide +kernel
theorem dX2_joinContact_106 : decode cX2_joinContact 106 = .ok (.iload 6, 2) := by decide +kernel
theorem dX2_joinContact_108 : decode cX2_joinContact 108 = .ok (.ifCond .ne 9, 3) := by decide +kernel
theorem dX2_joinContact_111 : decode cX2_joinContact 111 = .ok (.iload 5, 2) := by decide +kernel
theorem dX2_joinContact_113 : decode cX2_joinContact 113 = .ok (.iconst 2, 1) := by decide +kernel
theorem dX2_joinContact_114 : decode cX2_joinContact 114 = .ok (.if_icmp .ne 26, 3) := by decide +kernel
theorem dX2_joinContact_117 : decode cX2_joinContact 117 = .ok (.aload_n 0, 1) := by decide +kernel
theorem dX2_joinContact_118 : decode cX2_joinContact 118 = .ok (.getfield 28, 3) := by decide +kernel
theorem dX2_joinContact_121 : decode cX2_joinContact 121 = .ok (.iload 8, 2) := by decide +kernel
theorem dX2_joinContact_123 : decode cX2_joinContact 123 = .ok (.aload_n 0, 1) := by decide +kernel
theorem dX2_joinContact_124 : decode cX2_joinContact 124 = .ok (.getfield 12, 3) := by decide +kernel
theorem dX2_joinContact_127 : decode cX2_joinContact 127 = .ok (.getfield 103, 3) := by decide +kernel
theorem dX2_joinContact_130 : decode cX2_joinContact 130 = .ok (.iload 7, 2) := by decide +kernel
theorem dX2_joinContact_132 : decode cX2_joinContact 132 = .ok (.iconst 1, 1) := by decide +kernel
theorem dX2_joinContact_133 : decode cX2_joinContact 133 = .ok (.iadd, 1) := by decide +kernel
theorem dX2_joinContact_134 : decode cX2_joinContact 134 = .ok (.iaload, 1) := by decide +kernel
theorem dX2_joinContact_135 : decode cX2_joinContact 135 = .ok (.iconst 3, 1) := by decide +kernel
theorem dX2_joinContact_136 : decode cX2_joinContact 136 = .ok (.iconst 3, 1) := by decide +kernel
theorem dX2_joinContact_137 : decode cX2_joinContact 137 = .ok (.invokevirtual 123, 3) := by decide +kernel
theorem dX2_joinContact_140 : decode cX2_joinContact 140 = .ok (.iload 6, 2) := by decide +kernel
theorem dX2_joinContact_142 : decode cX2_joinContact 142 = .ok (.ifCond .ne 8, 3) := by decide +kernel
theorem dX2_joinContact_145 : decode cX2_joinContact 145 = .ok (.iload 5, 2) := by decide +kernel
theorem dX2_joinContact_147 : decode cX2_joinContact 147 = .ok (.ifCond .ne 26, 3) := by decide +kernel
theorem dX2_joinContact_150 : decode cX2_joinContact 150 = .ok (.aload_n 0, 1) := by decide +kernel
theorem dX2_joinContact_151 : decode cX2_joinContact 151 = .ok (.getfield 28, 3) := by decide +kernel
theorem dX2_joinContact_154 : decode cX2_joinContact 154 = .ok (.iload 8, 2) := by decide +kernel
theorem dX2_joinContact_156 : decode cX2_joinContact 156 = .ok (.aload_n 0, 1) := by decide +kernel
theorem dX2_joinContact_157 : decode cX2_joinContact 157 = .ok (.getfield 12, 3) := by decide +kernel
theorem dX2_joinContact_160 : decode cX2_joinContact 160 = .ok (.getfield 103, 3) := by decide +kernel
theorem dX2_joinContact_163 : decode cX2_joinContact 163 = .ok (.iload 7, 2) := by decide +kernel
theorem dX2_joinContact_165 : decode cX2_joinContact 165 = .ok (.iconst 2, 1) := by decide +kernel
theorem dX2_joinContact_166 : decode cX2_joinContact 166 = .ok (.iadd, 1) := by decide +kernel
theorem dX2_joinContact_167 : decode cX2_joinContact 167 = .ok (.iaload, 1) := by decide +kernel
theorem dX2_joinContact_168 : decode cX2_joinContact 168 = .ok (.iconst 3, 1) := by decide +kernel
theorem dX2_joinContact_169 : decode cX2_joinContact 169 = .ok (.iconst 3, 1) := by decide +kernel
theorem dX2_joinContact_170 : decode cX2_joinContact 170 = .ok (.invokevirtual 123, 3) := by decide +kernel
theorem dX2_joinContact_173 : decode cX2_joinContact 173 = .ok (.return_, 1) := by decide +kernel
theorem dX2_joinEnds_0 : decode cX2_joinEnds 0 = .ok (.iload_n 2, 1) := by decide +kernel
theorem dX2_joinEnds_1 : decode cX2_joinEnds 1 = .ok (.iconst 1, 1) := by decide +kernel
theorem dX2_joinEnds_2 : decode cX2_joinEnds 2 = .ok (.if_icmp .ne 7, 3) := by decide +kernel
theorem dX2_joinEnds_5 : decode cX2_joinEnds 5 = .ok (.iconst 2, 1) := by decide +kernel
theorem dX2_joinEnds_6 : decode cX2_joinEnds 6 = .ok (.goto 4, 3) := by decide +kernel
theorem dX2_joinEnds_9 : decode cX2_joinEnds 9 = .ok (.iload_n 2, 1) := by decide +kernel
theorem dX2_joinEnds_10 : decode cX2_joinEnds 10 = .ok (.istore_n 3, 1) := by decide +kernel
theorem dX2_joinEnds_11 : decode cX2_joinEnds 11 = .ok (.aload_n 0, 1) := by decide +kernel
theorem dX2_joinEnds_12 : decode cX2_joinEnds 12 = .ok (.getfield 28, 3) := by decide +kernel
theorem dX2_joinEnds_15 : decode cX2_joinEnds 15 = .ok (.aload_n 0, 1) := by decide +kernel
theorem dX2_joinEnds_16 : decode cX2_joinEnds 16 = .ok (.getfield 12, 3) := by decide +kernel
theorem dX2_joinEnds_19 : decode cX2_joinEnds 19 = .ok (.getfield 103, 3) := by decide +kernel
theorem dX2_joinEnds_22 : decode cX2_joinEnds 22 = .ok (.iload_n 1, 1) := by decide +kernel
theorem dX2_joinEnds_23 : decode cX2_joinEnds 23 = .ok (.iaload, 1) := by decide +kernel
theorem dX2_joinEnds_24 : decode cX2_joinEnds 24 = .ok (.aload_n 0, 1) := by decide +kernel
theorem dX2_joinEnds_25 : decode cX2_joinEnds 25 = .ok (.getfield 12, 3) := by decide +kernel
theorem dX2_joinEnds_28 : decode cX2_joinEnds 28 = .ok (.getfield 103, 3) := by decide +kernel
theorem dX2_joinEnds_31 : decode cX2_joinEnds 31 = .ok (.iload_n 1, 1) := by decide +kernel
theorem dX2_joinEnds_32 : decode cX2_joinEnds 32 = .ok (.iconst 1, 1) := by decide +kernel
theorem dX2_joinEnds_33 : decode cX2_joinEnds 33 = .ok (.iadd, 1) := by decide +kernel
theorem dX2_joinEnds_34 : decode cX2_joinEnds 34 = .ok (.iaload, 1) := by decide +kernel
theorem dX2_joinEnds_35 : decode cX2_joinEnds 35 = .ok (.iload_n 2, 1) := by decide +kernel
theorem dX2_joinEnds_36 : decode cX2_joinEnds 36 = .ok (.iload_n 3, 1) := by decide +kernel
theorem dX2_joinEnds_37 : decode cX2_joinEnds 37 = .ok (.invokevirtual 123, 3) := by decide +kernel
theorem dX2_joinEnds_40 : decode cX2_joinEnds 40 = .ok (.return_, 1) := by decide +kernel
theorem dX2_powerAt_0 : decode cX2_powerAt 0 = .ok (.iload_n 1, 1) := by decide +kernel
theorem dX2_powerAt_1 : decode cX2_powerAt 1 = .ok (.ifCond .lt 10, 3) := by decide +kernel
theorem dX2_powerAt_4 : decode cX2_powerAt 4 = .ok (.iload_n 1, 1) := by decide +kernel
theorem dX2_powerAt_5 : decode cX2_powerAt 5 = .ok (.sipush 954, 3) := by decide +kernel
theorem dX2_powerAt_8 : decode cX2_powerAt 8 = .ok (.if_icmp .lt 7, 3) := by decide +kernel
theorem dX2_powerAt_11 : decode cX2_powerAt 11 = .ok (.iconst 0, 1) := by decide +kernel
theorem dX2_powerAt_12 : decode cX2_powerAt 12 = .ok (.goto 19, 3) := by decide +kernel
theorem dX2_powerAt_15 : decode cX2_powerAt 15 = .ok (.aload_n 0, 1) := by decide +kernel
theorem dX2_powerAt_16 : decode cX2_powerAt 16 = .ok (.getfield 28, 3) := by decide +kernel
theorem dX2_powerAt_19 : decode cX2_powerAt 19 = .ok (.aload_n 0, 1) := by decide +kernel
theorem dX2_powerAt_20 : decode cX2_powerAt 20 = .ok (.getfield 12, 3) := by decide +kernel
theorem dX2_powerAt_23 : decode cX2_powerAt 23 = .ok (.getfield 103, 3) := by decide +kernel
theorem dX2_powerAt_26 : decode cX2_powerAt 26 = .ok (.iload_n 1, 1) := by decide +kernel
theorem dX2_powerAt_27 : decode cX2_powerAt 27 = .ok (.iaload, 1) := by decide +kernel
theorem dX2_powerAt_28 : decode cX2_powerAt 28 = .ok (.invokevirtual 127, 3) := by decide +kernel
theorem dX2_powerAt_31 : decode cX2_powerAt 31 = .ok (.ireturn, 1) := by decide +kernel
theorem dX2_isFed_0 : decode cX2_isFed 0 = .ok (.getstatic 93, 3) := by decide +kernel
theorem dX2_isFed_3 : decode cX2_isFed 3 = .ok (.iload_n 1, 1) := by decide +kernel
theorem dX2_isFed_4 : decode cX2_isFed 4 = .ok (.iaload, 1) := by decide +kernel
theorem dX2_isFed_5 : decode cX2_isFed 5 = .ok (.iload_n 2, 1) := by decide +kernel
theorem dX2_isFed_6 : decode cX2_isFed 6 = .ok (.iload_n 1, 1) := by decide +kernel
theorem dX2_isFed_7 : decode cX2_isFed 7 = .ok (.ifCond .ne 8, 3) := by decide +kernel
theorem dX2_isFed_10 : decode cX2_isFed 10 = .ok (.bipush 20, 2) := by decide +kernel
theorem dX2_isFed_12 : decode cX2_isFed 12 = .ok (.goto 4, 3) := by decide +kernel
theorem dX2_isFed_15 : decode cX2_isFed 15 = .ok (.iconst 2, 1) := by decide +kernel
theorem dX2_isFed_16 : decode cX2_isFed 16 = .ok (.imul, 1) := by decide +kernel
theorem dX2_isFed_17 : decode cX2_isFed 17 = .ok (.iadd, 1) := by decide +kernel
theorem dX2_isFed_18 : decode cX2_isFed 18 = .ok (.istore_n 3, 1) := by decide +kernel
theorem dX2_isFed_19 : decode cX2_isFed 19 = .ok (.aload_n 0, 1) := by decide +kernel
theorem dX2_isFed_20 : decode cX2_isFed 20 = .ok (.getfield 28, 3) := by decide +kernel
theorem dX2_isFed_23 : decode cX2_isFed 23 = .ok (.aload_n 0, 1) := by decide +kernel
theorem dX2_isFed_24 : decode cX2_isFed 24 = .ok (.getfield 12, 3) := by decide +kernel
theorem dX2_isFed_27 : decode cX2_isFed 27 = .ok (.getfield 103, 3) := by decide +kernel
theorem dX2_isFed_30 : decode cX2_isFed 30 = .ok (.iload_n 3, 1) := by decide +kernel
theorem dX2_isFed_31 : decode cX2_isFed 31 = .ok (.iaload, 1) := by decide +kernel
theorem dX2_isFed_32 : decode cX2_isFed 32 = .ok (.invokevirtual 127, 3) := by decide +kernel
theorem dX2_isFed_35 : decode cX2_isFed 35 = .ok (.istore 4, 2) := by decide +kernel
theorem dX2_isFed_37 : decode cX2_isFed 37 = .ok (.aload_n 0, 1) := by decide +kernel
theorem dX2_isFed_38 : decode cX2_isFed 38 = .ok (.getfield 28, 3) := by decide +kernel
theorem dX2_isFed_41 : decode cX2_isFed 41 = .ok (.aload_n 0, 1) := by decide +kernel
theorem dX2_isFed_42 : decode cX2_isFed 42 = .ok (.getfield 12, 3) := by decide +kernel
theorem dX2_isFed_45 : decode cX2_isFed 45 = .ok (.getfield 103, 3) := by decide +kernel
theorem dX2_isFed_48 : decode cX2_isFed 48 = .ok (.iload_n 3, 1) := by decide +kernel
theorem dX2_isFed_49 : decode cX2_isFed 49 = .ok (.iconst 1, 1) := by decide +kernel
theorem dX2_isFed_50 : decode cX2_isFed 50 = .ok (.iadd, 1) := by decide +kernel
theorem dX2_isFed_51 : decode cX2_isFed 51 = .ok (.iaload, 1) := by decide +kernel
theorem dX2_isFed_52 : decode cX2_isFed 52 = .ok (.invokevirtual 127, 3) := by decide +kernel
theorem dX2_isFed_55 : decode cX2_isFed 55 = .ok (.istore 5, 2) := by decide +kernel
theorem dX2_isFed_57 : decode cX2_isFed 57 = .ok (.iload 4, 2) := by decide +kernel
theorem dX2_isFed_59 : decode cX2_isFed 59 = .ok (.iconst 1, 1) := by decide +kernel
theorem dX2_isFed_60 : decode cX2_isFed 60 = .ok (.if_icmp .ne 9, 3) := by decide +kernel
theorem dX2_isFed_63 : decode cX2_isFed 63 = .ok (.iload 5, 2) := by decide +kernel
theorem dX2_isFed_65 : decode cX2_isFed 65 = .ok (.iconst 2, 1) := by decide +kernel
theorem dX2_isFed_66 : decode cX2_isFed 66 = .ok (.if_icmp .eq 15, 3) := by decide +kernel
theorem dX2_isFed_69 : decode cX2_isFed 69 = .ok (.iload 4, 2) := by decide +kernel
theorem dX2_isFed_71 : decode cX2_isFed 71 = .ok (.iconst 2, 1) := by decide +kernel
theorem dX2_isFed_72 : decode cX2_isFed 72 = .ok (.if_icmp .ne 13, 3) := by decide +kernel
theorem dX2_isFed_75 : decode cX2_isFed 75 = .ok (.iload 5, 2) := by decide +kernel
theorem dX2_isFed_77 : decode cX2_isFed 77 = .ok (.iconst 1, 1) := by decide +kernel
theorem dX2_isFed_78 : decode cX2_isFed 78 = .ok (.if_icmp .ne 7, 3) := by decide +kernel
theorem dX2_isFed_81 : decode cX2_isFed 81 = .ok (.iconst 1, 1) := by decide +kernel
theorem dX2_isFed_82 : decode cX2_isFed 82 = .ok (.goto 4, 3) := by decide +kernel
theorem dX2_isFed_85 : decode cX2_isFed 85 = .ok (.iconst 0, 1) := by decide +kernel
theorem dX2_isFed_86 : decode cX2_isFed 86 = .ok (.ireturn, 1) := by decide +kernel
theorem dX2_shortNets_0 : decode cX2_shortNets 0 = .ok (.iconst 0, 1) := by decide +kernel
theorem dX2_shortNets_1 : decode cX2_shortNets 1 = .ok (.istore_n 1, 1) := by decide +kernel
theorem dX2_shortNets_2 : decode cX2_shortNets 2 = .ok (.iconst 0, 1) := by decide +kernel
theorem dX2_shortNets_3 : decode cX2_shortNets 3 = .ok (.istore_n 2, 1) := by decide +kernel
theorem dX2_shortNets_4 : decode cX2_shortNets 4 = .ok (.iload_n 2, 1) := by decide +kernel
theorem dX2_shortNets_5 : decode cX2_shortNets 5 = .ok (.aload_n 0, 1) := by decide +kernel
theorem dX2_shortNets_6 : decode cX2_shortNets 6 = .ok (.getfield 12, 3) := by decide +kernel
theorem dX2_shortNets_9 : decode cX2_shortNets 9 = .ok (.getfield 131, 3) := by decide +kernel
theorem dX2_shortNets_12 : decode cX2_shortNets 12 = .ok (.if_icmp .ge 24, 3) := by decide +kernel
theorem dX2_shortNets_15 : decode cX2_shortNets 15 = .ok (.aload_n 0, 1) := by decide +kernel
theorem dX2_shortNets_16 : decode cX2_shortNets 16 = .ok (.getfield 28, 3) := by decide +kernel
theorem dX2_shortNets_19 : decode cX2_shortNets 19 = .ok (.iload_n 2, 1) := by decide +kernel
theorem dX2_shortNets_20 : decode cX2_shortNets 20 = .ok (.invokevirtual 127, 3) := by decide +kernel
theorem dX2_shortNets_23 : decode cX2_shortNets 23 = .ok (.iconst 3, 1) := by decide +kernel
theorem dX2_shortNets_24 : decode cX2_shortNets 24 = .ok (.if_icmp .ne 6, 3) := by decide +kernel
theorem dX2_shortNets_27 : decode cX2_shortNets 27 = .ok (.iinc 1 1, 3) := by decide +kernel
theorem dX2_shortNets_30 : decode cX2_shortNets 30 = .ok (.iinc 2 1, 3) := by decide +kernel
theorem dX2_shortNets_33 : decode cX2_shortNets 33 = .ok (.goto (-29), 3) := by decide +kernel
theorem dX2_shortNets_36 : decode cX2_shortNets 36 = .ok (.iload_n 1, 1) := by decide +kernel
theorem dX2_shortNets_37 : decode cX2_shortNets 37 = .ok (.ireturn, 1) := by decide +kernel
theorem dX3_init_0 : decode cX3_init 0 = .ok (.aload_n 0, 1) := by decide +kernel
theorem dX3_init_1 : decode cX3_init 1 = .ok (.invokespecial 3, 3) := by decide +kernel
theorem dX3_init_4 : decode cX3_init 4 = .ok (.aload_n 0, 1) := by decide +kernel
theorem dX3_init_5 : decode cX3_init 5 = .ok (.iconst 5, 1) := by decide +kernel
theorem dX3_init_6 : decode cX3_init 6 = .ok (.newarray .int, 2) := by decide +kernel
theorem dX3_init_8 : decode cX3_init 8 = .ok (.putfield 9, 3) := by decide +kernel
theorem dX3_init_11 : decode cX3_init 11 = .ok (.aload_n 0, 1) := by decide +kernel
theorem dX3_init_12 : decode cX3_init 12 = .ok (.iconst 5, 1) := by decide +kernel
theorem dX3_init_13 : decode cX3_init 13 = .ok (.bipush 40, 2) := by decide +kernel
theorem dX3_init_15 : decode cX3_init 15 = .ok (.multianewarray 15 2, 4) := by decide +kernel
theorem dX3_init_19 : decode cX3_init 19 = .ok (.putfield 17, 3) := by decide +kernel
theorem dX3_init_22 : decode cX3_init 22 = .ok (.aload_n 0, 1) := by decide +kernel
theorem dX3_init_23 : decode cX3_init 23 = .ok (.bipush 40, 2) := by decide +kernel
theorem dX3_init_25 : decode cX3_init 25 = .ok (.newarray .int, 2) := by decide +kernel
theorem dX3_init_27 : decode cX3_init 27 = .ok (.putfield 20, 3) := by decide +kernel
theorem dX3_init_30 : decode cX3_init 30 = .ok (.aload_n 0, 1) := by decide +kernel
theorem dX3_init_31 : decode cX3_init 31 = .ok (.bipush 40, 2) := by decide +kernel
theorem dX3_init_33 : decode cX3_init 33 = .ok (.newarray .int, 2) := by decide +kernel
theorem dX3_init_35 : decode cX3_init 35 = .ok (.putfield 23, 3) := by decide +kernel
theorem dX3_init_38 : decode cX3_init 38 = .ok (.aload_n 0, 1) := by decide +kernel
theorem dX3_init_39 : decode cX3_init 39 = .ok (.bipush 40, 2) := by decide +kernel
theorem dX3_init_41 : decode cX3_init 41 = .ok (.newarray .int, 2) := by decide +kernel
theorem dX3_init_43 : decode cX3_init 43 = .ok (.putfield 26, 3) := by decide +kernel
theorem dX3_init_46 : decode cX3_init 46 = .ok (.aload_n 0, 1) := by decide +kernel
theorem dX3_init_47 : decode cX3_init 47 = .ok (.bipush 40, 2) := by decide +kernel
theorem dX3_init_49 : decode cX3_init 49 = .ok (.newarray .int, 2) := by decide +kernel
theorem dX3_init_51 : decode cX3_init 51 = .ok (.putfield 29, 3) := by decide +kernel
theorem dX3_init_54 : decode cX3_init 54 = .ok (.aload_n 0, 1) := by decide +kernel
theorem dX3_init_55 : decode cX3_init 55 = .ok (.iconst 4, 1) := by decide +kernel
theorem dX3_init_56 : decode cX3_init 56 = .ok (.newarray .int, 2) := by decide +kernel
theorem dX3_init_58 : decode cX3_init 58 = .ok (.putfield 32, 3) := by decide +kernel
theorem dX3_init_61 : decode cX3_init 61 = .ok (.aload_n 0, 1) := by decide +kernel
theorem dX3_init_62 : decode cX3_init 62 = .ok (.iconst 4, 1) := by decide +kernel
theorem dX3_init_63 : decode cX3_init 63 = .ok (.newarray .int, 2) := by decide +kernel
theorem dX3_init_65 : decode cX3_init 65 = .ok (.putfield 35, 3) := by decide +kernel
theorem dX3_init_68 : decode cX3_init 68 = .ok (.aload_n 0, 1) := by decide +kernel
theorem dX3_init_69 : decode cX3_init 69 = .ok (.sipush 954, 3) := by decide +kernel
theorem dX3_init_72 : decode cX3_init 72 = .ok (.newarray .boolean, 2) := by decide +kernel
theorem dX3_init_74 : decode cX3_init 74 = .ok (.putfield 38, 3) := by decide +kernel
theorem dX3_init_77 : decode cX3_init 77 = .ok (.aload_n 0, 1) := by decide +kernel
theorem dX3_init_78 : decode cX3_init 78 = .ok (.sipush 954, 3) := by decide +kernel
theorem dX3_init_81 : decode cX3_init 81 = .ok (.newarray .int, 2) := by decide +kernel
theorem dX3_init_83 : decode cX3_init 83 = .ok (.putfield 42, 3) := by decide +kernel
theorem dX3_init_86 : decode cX3_init 86 = .ok (.aload_n 0, 1) := by decide +kernel
theorem dX3_init_87 : decode cX3_init 87 = .ok (.sipush 954, 3) := by decide +kernel
theorem dX3_init_90 : decode cX3_init 90 = .ok (.newarray .int, 2) := by decide +kernel
theorem dX3_init_92 : decode cX3_init 92 = .ok (.putfield 45, 3) := by decide +kernel
theorem dX3_init_95 : decode cX3_init 95 = .ok (.aload_n 0, 1) := by decide +kernel
theorem dX3_init_96 : decode cX3_init 96 = .ok (.iconst 0, 1) := by decide +kernel
theorem dX3_init_97 : decode cX3_init 97 = .ok (.putfield 48, 3) := by decide +kernel
theorem dX3_init_100 : decode cX3_init 100 = .ok (.aload_n 0, 1) := by decide +kernel
theorem dX3_init_101 : decode cX3_init 101 = .ok (.iconst 0, 1) := by decide +kernel
theorem dX3_init_102 : decode cX3_init 102 = .ok (.putfield 52, 3) := by decide +kernel
theorem dX3_init_105 : decode cX3_init 105 = .ok (.aload_n 0, 1) := by decide +kernel
theorem dX3_init_106 : decode cX3_init 106 = .ok (.invokevirtual 55, 3) := by decide +kernel
theorem dX3_init_109 : decode cX3_init 109 = .ok (.aload_n 0, 1) := by decide +kernel
theorem dX3_init_110 : decode cX3_init 110 = .ok (.invokevirtual 58, 3) := by decide +kernel
theorem dX3_init_113 : decode cX3_init 113 = .ok (.return_, 1) := by decide +kernel
theorem dX3_clear_0 : decode cX3_clear 0 = .ok (.iconst 0, 1) := by decide +kernel
theorem dX3_clear_1 : decode cX3_clear 1 = .ok (.istore_n 1, 1) := by decide +kernel
theorem dX3_clear_2 : decode cX3_clear 2 = .ok (.iload_n 1, 1) := by decide +kernel
theorem dX3_clear_3 : decode cX3_clear 3 = .ok (.iconst 5, 1) := by decide +kernel
theorem dX3_clear_4 : decode cX3_clear 4 = .ok (.if_icmp .ge 16, 3) := by decide +kernel
theorem dX3_clear_7 : decode cX3_clear 7 = .ok (.aload_n 0, 1) := by decide +kernel
theorem dX3_clear_8 : decode cX3_clear 8 = .ok (.getfield 9, 3) := by decide +kernel
theorem dX3_clear_11 : decode cX3_clear 11 = .ok (.iload_n 1, 1) := by decide +kernel
theorem dX3_clear_12 : decode cX3_clear 12 = .ok (.iconst 0, 1) := by decide +kernel
theorem dX3_clear_13 : decode cX3_clear 13 = .ok (.iastore, 1) := by decide +kernel
theorem dX3_clear_14 : decode cX3_clear 14 = .ok (.iinc 1 1, 3) := by decide +kernel
theorem dX3_clear_17 : decode cX3_clear 17 = .ok (.goto (-15), 3) := by decide +kernel
theorem dX3_clear_20 : decode cX3_clear 20 = .ok (.iconst 0, 1) := by decide +kernel
theorem dX3_clear_21 : decode cX3_clear 21 = .ok (.istore_n 1, 1) := by decide +kernel
theorem dX3_clear_22 : decode cX3_clear 22 = .ok (.iload_n 1, 1) := by decide +kernel
theorem dX3_clear_23 : decode cX3_clear 23 = .ok (.sipush 954, 3) := by decide +kernel
theorem dX3_clear_26 : decode cX3_clear 26 = .ok (.if_icmp .ge 30, 3) := by decide +kernel
theorem dX3_clear_29 : decode cX3_clear 29 = .ok (.aload_n 0, 1) := by decide +kernel
theorem dX3_clear_30 : decode cX3_clear 30 = .ok (.getfield 38, 3) := by decide +kernel
theorem dX3_clear_33 : decode cX3_clear 33 = .ok (.iload_n 1, 1) := by decide +kernel
theorem dX3_clear_34 : decode cX3_clear 34 = .ok (.iconst 0, 1) := by decide +kernel
theorem dX3_clear_35 : decode cX3_clear 35 = .ok (.bastore, 1) := by decide +kernel
theorem dX3_clear_36 : decode cX3_clear 36 = .ok (.aload_n 0, 1) := by decide +kernel
theorem dX3_clear_37 : decode cX3_clear 37 = .ok (.getfield 42, 3) := by decide +kernel
theorem dX3_clear_40 : decode cX3_clear 40 = .ok (.iload_n 1, 1) := by decide +kernel
theorem dX3_clear_41 : decode cX3_clear 41 = .ok (.iload_n 1, 1) := by decide +kernel
theorem dX3_clear_42 : decode cX3_clear 42 = .ok (.iastore, 1) := by decide +kernel
theorem dX3_clear_43 : decode cX3_clear 43 = .ok (.aload_n 0, 1) := by decide +kernel
theorem dX3_clear_44 : decode cX3_clear 44 = .ok (.getfield 45, 3) := by decide +kernel
theorem dX3_clear_47 : decode cX3_clear 47 = .ok (.iload_n 1, 1) := by decide +kernel
theorem dX3_clear_48 : decode cX3_clear 48 = .ok (.iconst (-1), 1) := by decide +kernel
theorem dX3_clear_49 : decode cX3_clear 49 = .ok (.iastore, 1) := by decide +kernel
theorem dX3_clear_50 : decode cX3_clear 50 = .ok (.iinc 1 1, 3) := by decide +kernel
theorem dX3_clear_53 : decode cX3_clear 53 = .ok (.goto (-31), 3) := by decide +kernel
theorem dX3_clear_56 : decode cX3_clear 56 = .ok (.return_, 1) := by decide +kernel
theorem dX3_add_0 : decode cX3_add 0 = .ok (.iload_n 1, 1) := by decide +kernel
theorem dX3_add_1 : decode cX3_add 1 = .ok (.ifCond .lt 22, 3) := by decide +kernel
theorem dX3_add_4 : decode cX3_add 4 = .ok (.iload_n 1, 1) := by decide +kernel
theorem dX3_add_5 : decode cX3_add 5 = .ok (.iconst 5, 1) := by decide +kernel
theorem dX3_add_6 : decode cX3_add 6 = .ok (.if_icmp .ge 17, 3) := by decide +kernel
theorem dX3_add_9 : decode cX3_add 9 = .ok (.aload_n 0, 1) := by decide +kernel
theorem dX3_add_10 : decode cX3_add 10 = .ok (.getfield 9, 3) := by decide +kernel
theorem dX3_add_13 : decode cX3_add 13 = .ok (.iload_n 1, 1) := by decide +kernel
theorem dX3_add_14 : decode cX3_add 14 = .ok (.iaload, 1) := by decide +kernel
theorem dX3_add_15 : decode cX3_add 15 = .ok (.getstatic 61, 3) := by decide +kernel
theorem dX3_add_18 : decode cX3_add 18 = .ok (.iload_n 1, 1) := by decide +kernel
theorem dX3_add_19 : decode cX3_add 19 = .ok (.iaload, 1) := by decide +kernel
theorem dX3_add_20 : decode cX3_add 20 = .ok (.if_icmp .lt 5, 3) := by decide +kernel
theorem dX3_add_23 : decode cX3_add 23 = .ok (.iconst (-1), 1) := by decide +kernel
theorem dX3_add_24 : decode cX3_add 24 = .ok (.ireturn, 1) := by decide +kernel
theorem dX3_add_25 : decode cX3_add 25 = .ok (.aload_n 0, 1) := by decide +kernel
theorem dX3_add_26 : decode cX3_add 26 = .ok (.getfield 9, 3) := by decide +kernel
theorem dX3_add_29 : decode cX3_add 29 = .ok (.iload_n 1, 1) := by decide +kernel
theorem dX3_add_30 : decode cX3_add 30 = .ok (.iaload, 1) := by decide +kernel
theorem dX3_add_31 : decode cX3_add 31 = .ok (.istore 4, 2) := by decide +kernel
theorem dX3_add_33 : decode cX3_add 33 = .ok (.aload_n 0, 1) := by decide +kernel
theorem dX3_add_34 : decode cX3_add 34 = .ok (.getfield 17, 3) := by decide +kernel
theorem dX3_add_37 : decode cX3_add 37 = .ok (.iload_n 1, 1) := by decide +kernel
theorem dX3_add_38 : decode cX3_add 38 = .ok (.aaload, 1) := by decide +kernel
theorem dX3_add_39 : decode cX3_add 39 = .ok (.iload 4, 2) := by decide +kernel
theorem dX3_add_41 : decode cX3_add 41 = .ok (.lload_n 2, 1) := by decide +kernel
theorem dX3_add_42 : decode cX3_add 42 = .ok (.lastore, 1) := by decide +kernel
theorem dX3_add_43 : decode cX3_add 43 = .ok (.aload_n 0, 1) := by decide +kernel
theorem dX3_add_44 : decode cX3_add 44 = .ok (.getfield 9, 3) := by decide +kernel
theorem dX3_add_47 : decode cX3_add 47 = .ok (.iload_n 1, 1) := by decide +kernel
theorem dX3_add_48 : decode cX3_add 48 = .ok (.dup2, 1) := by decide +kernel
theorem dX3_add_49 : decode cX3_add 49 = .ok (.iaload, 1) := by decide +kernel
theorem dX3_add_50 : decode cX3_add 50 = .ok (.iconst 1, 1) := by decide +kernel
theorem dX3_add_51 : decode cX3_add 51 = .ok (.iadd, 1) := by decide +kernel
theorem dX3_add_52 : decode cX3_add 52 = .ok (.iastore, 1) := by decide +kernel
theorem dX3_add_53 : decode cX3_add 53 = .ok (.iload 4, 2) := by decide +kernel
theorem dX3_add_55 : decode cX3_add 55 = .ok (.ireturn, 1) := by decide +kernel
theorem dX3_setRelay_0 : decode cX3_setRelay 0 = .ok (.aload_n 0, 1) := by decide +kernel
theorem dX3_setRelay_1 : decode cX3_setRelay 1 = .ok (.iconst 0, 1) := by decide +kernel
theorem dX3_setRelay_2 : decode cX3_setRelay 2 = .ok (.iload_n 1, 1) := by decide +kernel
theorem dX3_setRelay_3 : decode cX3_setRelay 3 = .ok (.invokevirtual 64, 3) := by decide +kernel
theorem dX3_setRelay_6 : decode cX3_setRelay 6 = .ok (.ifCond .eq 33, 3) := by decide +kernel
theorem dX3_setRelay_9 : decode cX3_setRelay 9 = .ok (.aload_n 0, 1) := by decide +kernel
theorem dX3_setRelay_10 : decode cX3_setRelay 10 = .ok (.getfield 20, 3) := by decide +kernel
theorem dX3_setRelay_13 : decode cX3_setRelay 13 = .ok (.iload_n 1, 1) := by decide +kernel
theorem dX3_setRelay_14 : decode cX3_setRelay 14 = .ok (.iload_n 2, 1) := by decide +kernel
theorem dX3_setRelay_15 : decode cX3_setRelay 15 = .ok (.iastore, 1) := by decide +kernel
theorem dX3_setRelay_16 : decode cX3_setRelay 16 = .ok (.aload_n 0, 1) := by decide +kernel
theorem dX3_setRelay_17 : decode cX3_setRelay 17 = .ok (.getfield 23, 3) := by decide +kernel
theorem dX3_setRelay_20 : decode cX3_setRelay 20 = .ok (.iload_n 1, 1) := by decide +kernel
theorem dX3_setRelay_21 : decode cX3_setRelay 21 = .ok (.iload_n 3, 1) := by decide +kernel
theorem dX3_setRelay_22 : decode cX3_setRelay 22 = .ok (.iastore, 1) := by decide +kernel
theorem dX3_setRelay_23 : decode cX3_setRelay 23 = .ok (.aload_n 0, 1) := by decide +kernel
theorem dX3_setRelay_24 : decode cX3_setRelay 24 = .ok (.getfield 26, 3) := by decide +kernel
theorem dX3_setRelay_27 : decode cX3_setRelay 27 = .ok (.iload_n 1, 1) := by decide +kernel
theorem dX3_setRelay_28 : decode cX3_setRelay 28 = .ok (.iload 4, 2) := by decide +kernel
theorem dX3_setRelay_30 : decode cX3_setRelay 30 = .ok (.iastore, 1) := by decide +kernel
theorem dX3_setRelay_31 : decode cX3_setRelay 31 = .ok (.aload_n 0, 1) := by decide +kernel
theorem dX3_setRelay_32 : decode cX3_setRelay 32 = .ok (.getfield 29, 3) := by decide +kernel
theorem dX3_setRelay_35 : decode cX3_setRelay 35 = .ok (.iload_n 1, 1) := by decide +kernel
theorem dX3_setRelay_36 : decode cX3_setRelay 36 = .ok (.iload 5, 2) := by decide +kernel
theorem dX3_setRelay_38 : decode cX3_setRelay 38 = .ok (.iastore, 1) := by decide +kernel
theorem dX3_setRelay_39 : decode cX3_setRelay 39 = .ok (.return_, 1) := by decide +kernel
theorem dX3_setClock_0 : decode cX3_setClock 0 = .ok (.aload_n 0, 1) := by decide +kernel
theorem dX3_setClock_1 : decode cX3_setClock 1 = .ok (.iconst 3, 1) := by decide +kernel
theorem dX3_setClock_2 : decode cX3_setClock 2 = .ok (.iload_n 1, 1) := by decide +kernel
theorem dX3_setClock_3 : decode cX3_setClock 3 = .ok (.invokevirtual 64, 3) := by decide +kernel
theorem dX3_setClock_6 : decode cX3_setClock 6 = .ok (.ifCond .eq 17, 3) := by decide +kernel
theorem dX3_setClock_9 : decode cX3_setClock 9 = .ok (.aload_n 0, 1) := by decide +kernel
theorem dX3_setClock_10 : decode cX3_setClock 10 = .ok (.getfield 32, 3) := by decide +kernel
theorem dX3_setClock_13 : decode cX3_setClock 13 = .ok (.iload_n 1, 1) := by decide +kernel
theorem dX3_setClock_14 : decode cX3_setClock 14 = .ok (.iload_n 2, 1) := by decide +kernel
theorem dX3_setClock_15 : decode cX3_setClock 15 = .ok (.iastore, 1) := by decide +kernel
theorem dX3_setClock_16 : decode cX3_setClock 16 = .ok (.aload_n 0, 1) := by decide +kernel
theorem dX3_setClock_17 : decode cX3_setClock 17 = .ok (.getfield 35, 3) := by decide +kernel
theorem dX3_setClock_20 : decode cX3_setClock 20 = .ok (.iload_n 1, 1) := by decide +kernel
theorem dX3_setClock_21 : decode cX3_setClock 21 = .ok (.iload_n 3, 1) := by decide +kernel
theorem dX3_setClock_22 : decode cX3_setClock 22 = .ok (.iastore, 1) := by decide +kernel
theorem dX3_setClock_23 : decode cX3_setClock 23 = .ok (.return_, 1) := by decide +kernel
theorem dX3_find_0 : decode cX3_find 0 = .ok (.iconst 0, 1) := by decide +kernel
theorem dX3_find_1 : decode cX3_find 1 = .ok (.istore_n 3, 1) := by decide +kernel
theorem dX3_find_2 : decode cX3_find 2 = .ok (.iload_n 3, 1) := by decide +kernel
theorem dX3_find_3 : decode cX3_find 3 = .ok (.iconst 5, 1) := by decide +kernel
theorem dX3_find_4 : decode cX3_find 4 = .ok (.if_icmp .ge 51, 3) := by decide +kernel
theorem dX3_find_7 : decode cX3_find 7 = .ok (.iconst 0, 1) := by decide +kernel
theorem dX3_find_8 : decode cX3_find 8 = .ok (.istore 4, 2) := by decide +kernel
theorem dX3_find_10 : decode cX3_find 10 = .ok (.iload 4, 2) := by decide +kernel
theorem dX3_find_12 : decode cX3_find 12 = .ok (.aload_n 0, 1) := by decide +kernel
theorem dX3_find_13 : decode cX3_find 13 = .ok (.getfield 9, 3) := by decide +kernel
theorem dX3_find_16 : decode cX3_find 16 = .ok (.iload_n 3, 1) := by decide +kernel
theorem dX3_find_17 : decode cX3_find 17 = .ok (.iaload, 1) := by decide +kernel
theorem dX3_find_18 : decode cX3_find 18 = .ok (.if_icmp .ge 31, 3) := by decide +kernel
theorem dX3_find_21 : decode cX3_find 21 = .ok (.aload_n 0, 1) := by decide +kernel
theorem dX3_find_22 : decode cX3_find 22 = .ok (.getfield 17, 3) := by decide +kernel
theorem dX3_find_25 : decode cX3_find 25 = .ok (.iload_n 3, 1) := by decide +kernel
theorem dX3_find_26 : decode cX3_find 26 = .ok (.aaload, 1) := by decide +kernel
theorem dX3_find_27 : decode cX3_find 27 = .ok (.iload 4, 2) := by decide +kernel
theorem dX3_find_29 : decode cX3_find 29 = .ok (.laload, 1) := by decide +kernel
theorem dX3_find_30 : decode cX3_find 30 = .ok (.lload_n 1, 1) := by decide +kernel
theorem dX3_find_31 : decode cX3_find 31 = .ok (.lcmp, 1) := by decide +kernel
theorem dX3_find_32 : decode cX3_find 32 = .ok (.ifCond .ne 11, 3) := by decide +kernel
theorem dX3_find_35 : decode cX3_find 35 = .ok (.iload_n 3, 1) := by decide +kernel
theorem dX3_find_36 : decode cX3_find 36 = .ok (.bipush 40, 2) := by decide +kernel
theorem dX3_find_38 : decode cX3_find 38 = .ok (.imul, 1) := by decide +kernel
theorem dX3_find_39 : decode cX3_find 39 = .ok (.iload 4, 2) := by decide +kernel
theorem dX3_find_41 : decode cX3_find 41 = .ok (.iadd, 1) := by decide +kernel
theorem dX3_find_42 : decode cX3_find 42 = .ok (.ireturn, 1) := by decide +kernel
theorem dX3_find_43 : decode cX3_find 43 = .ok (.iinc 4 1, 3) := by decide +kernel
theorem dX3_find_46 : decode cX3_find 46 = .ok (.goto (-36), 3) := by decide +kernel
theorem dX3_find_49 : decode cX3_find 49 = .ok (.iinc 3 1, 3) := by decide +kernel
theorem dX3_find_52 : decode cX3_find 52 = .ok (.goto (-50), 3) := by decide +kernel
theorem dX3_find_55 : decode cX3_find 55 = .ok (.iconst (-1), 1) := by decide +kernel
theorem dX3_find_56 : decode cX3_find 56 = .ok (.ireturn, 1) := by decide +kernel
theorem dX3_has_0 : decode cX3_has 0 = .ok (.iload_n 1, 1) := by decide +kernel
theorem dX3_has_1 : decode cX3_has 1 = .ok (.ifCond .lt 26, 3) := by decide +kernel
theorem dX3_has_4 : decode cX3_has 4 = .ok (.iload_n 1, 1) := by decide +kernel
theorem dX3_has_5 : decode cX3_has 5 = .ok (.iconst 5, 1) := by decide +kernel
theorem dX3_has_6 : decode cX3_has 6 = .ok (.if_icmp .ge 21, 3) := by decide +kernel
theorem dX3_has_9 : decode cX3_has 9 = .ok (.iload_n 2, 1) := by decide +kernel
theorem dX3_has_10 : decode cX3_has 10 = .ok (.ifCond .lt 17, 3) := by decide +kernel
theorem dX3_has_13 : decode cX3_has 13 = .ok (.iload_n 2, 1) := by decide +kernel
theorem dX3_has_14 : decode cX3_has 14 = .ok (.aload_n 0, 1) := by decide +kernel
theorem dX3_has_15 : decode cX3_has 15 = .ok (.getfield 9, 3) := by decide +kernel
theorem dX3_has_18 : decode cX3_has 18 = .ok (.iload_n 1, 1) := by decide +kernel
theorem dX3_has_19 : decode cX3_has 19 = .ok (.iaload, 1) := by decide +kernel
theorem dX3_has_20 : decode cX3_has 20 = .ok (.if_icmp .ge 7, 3) := by decide +kernel
theorem dX3_has_23 : decode cX3_has 23 = .ok (.iconst 1, 1) := by decide +kernel
theorem dX3_has_24 : decode cX3_has 24 = .ok (.goto 4, 3) := by decide +kernel
theorem dX3_has_27 : decode cX3_has 27 = .ok (.iconst 0, 1) := by decide +kernel
theorem dX3_has_28 : decode cX3_has 28 = .ok (.ireturn, 1) := by decide +kernel
theorem dX3_hasContact_0 : decode cX3_hasContact 0 = .ok (.aload_n 0, 1) := by decide +kernel
theorem dX3_hasContact_1 : decode cX3_hasContact 1 = .ok (.iconst 0, 1) := by decide +kernel
theorem dX3_hasContact_2 : decode cX3_hasContact 2 = .ok (.iload_n 1, 1) := by decide +kernel
theorem dX3_hasContact_3 : decode cX3_hasContact 3 = .ok (.invokevirtual 64, 3) := by decide +kernel
theorem dX3_hasContact_6 : decode cX3_hasContact 6 = .ok (.ifCond .eq 22, 3) := by decide +kernel
theorem dX3_hasContact_9 : decode cX3_hasContact 9 = .ok (.iload_n 2, 1) := by decide +kernel
theorem dX3_hasContact_10 : decode cX3_hasContact 10 = .ok (.iconst 1, 1) := by decide +kernel
theorem dX3_hasContact_11 : decode cX3_hasContact 11 = .ok (.if_icmp .lt 17, 3) := by decide +kernel
theorem dX3_hasContact_14 : decode cX3_hasContact 14 = .ok (.iload_n 2, 1) := by decide +kernel
theorem dX3_hasContact_15 : decode cX3_hasContact 15 = .ok (.aload_n 0, 1) := by decide +kernel
theorem dX3_hasContact_16 : decode cX3_hasContact 16 = .ok (.getfield 26, 3) := by decide +kernel
theorem dX3_hasContact_19 : decode cX3_hasContact 19 = .ok (.iload_n 1, 1) := by decide +kernel
theorem dX3_hasContact_20 : decode cX3_hasContact 20 = .ok (.iaload, 1) := by decide +kernel
theorem dX3_hasContact_21 : decode cX3_hasContact 21 = .ok (.if_icmp .gt 7, 3) := by decide +kernel
theorem dX3_hasContact_24 : decode cX3_hasContact 24 = .ok (.iconst 1, 1) := by decide +kernel
theorem dX3_hasContact_25 : decode cX3_hasContact 25 = .ok (.goto 4, 3) := by decide +kernel
theorem dX3_hasContact_28 : decode cX3_hasContact 28 = .ok (.iconst 0, 1) := by decide +kernel
theorem dX3_hasContact_29 : decode cX3_hasContact 29 = .ok (.ireturn, 1) := by decide +kernel
theorem dX3_isOn_0 : decode cX3_isOn 0 = .ok (.aload_n 0, 1) := by decide +kernel
theorem dX3_isOn_1 : decode cX3_isOn 1 = .ok (.getfield 32, 3) := by decide +kernel
theorem dX3_isOn_4 : decode cX3_isOn 4 = .ok (.iload_n 1, 1) := by decide +kernel
theorem dX3_isOn_5 : decode cX3_isOn 5 = .ok (.iaload, 1) := by decide +kernel
theorem dX3_isOn_6 : decode cX3_isOn 6 = .ok (.ifCond .le 24, 3) := by decide +kernel
theorem dX3_isOn_9 : decode cX3_isOn 9 = .ok (.iload_n 2, 1) := by decide +kernel
theorem dX3_isOn_10 : decode cX3_isOn 10 = .ok (.aload_n 0, 1) := by decide +kernel
theorem dX3_isOn_11 : decode cX3_isOn 11 = .ok (.getfield 32, 3) := by decide +kernel
theorem dX3_isOn_14 : decode cX3_isOn 14 = .ok (.iload_n 1, 1) := by decide +kernel
theorem dX3_isOn_15 : decode cX3_isOn 15 = .ok (.iaload, 1) := by decide +kernel
theorem dX3_isOn_16 : decode cX3_isOn 16 = .ok (.irem, 1) := by decide +kernel
theorem dX3_isOn_17 : decode cX3_isOn 17 = .ok (.aload_n 0, 1) := by decide +kernel
theorem dX3_isOn_18 : decode cX3_isOn 18 = .ok (.getfield 35, 3) := by decide +kernel
theorem dX3_isOn_21 : decode cX3_isOn 21 = .ok (.iload_n 1, 1) := by decide +kernel
theorem dX3_isOn_22 : decode cX3_isOn 22 = .ok (.iaload, 1) := by decide +kernel
theorem dX3_isOn_23 : decode cX3_isOn 23 = .ok (.if_icmp .ge 7, 3) := by decide +kernel
theorem dX3_isOn_26 : decode cX3_isOn 26 = .ok (.iconst 1, 1) := by decide +kernel
theorem dX3_isOn_27 : decode cX3_isOn 27 = .ok (.goto 4, 3) := by decide +kernel
theorem dX3_isOn_30 : decode cX3_isOn 30 = .ok (.iconst 0, 1) := by decide +kernel
theorem dX3_isOn_31 : decode cX3_isOn 31 = .ok (.ireturn, 1) := by decide +kernel
theorem dX3_makesFirst_0 : decode cX3_makesFirst 0 = .ok (.aload_n 0, 1) := by decide +kernel
theorem dX3_makesFirst_1 : decode cX3_makesFirst 1 = .ok (.getfield 29, 3) := by decide +kernel
theorem dX3_makesFirst_4 : decode cX3_makesFirst 4 = .ok (.iload_n 1, 1) := by decide +kernel
theorem dX3_makesFirst_5 : decode cX3_makesFirst 5 = .ok (.iaload, 1) := by decide +kernel
theorem dX3_makesFirst_6 : decode cX3_makesFirst 6 = .ok (.iload_n 2, 1) := by decide +kernel
theorem dX3_makesFirst_7 : decode cX3_makesFirst 7 = .ok (.iconst 1, 1) := by decide +kernel
theorem dX3_makesFirst_8 : decode cX3_makesFirst 8 = .ok (.isub, 1) := by decide +kernel
theorem dX3_makesFirst_9 : decode cX3_makesFirst 9 = .ok (.ishr, 1) := by decide +kernel
theorem dX3_makesFirst_10 : decode cX3_makesFirst 10 = .ok (.iconst 1, 1) := by decide +kernel
theorem dX3_makesFirst_11 : decode cX3_makesFirst 11 = .ok (.iand, 1) := by decide +kernel
theorem dX3_makesFirst_12 : decode cX3_makesFirst 12 = .ok (.ifCond .eq 7, 3) := by decide +kernel
theorem dX3_makesFirst_15 : decode cX3_makesFirst 15 = .ok (.iconst 1, 1) := by decide +kernel
theorem dX3_makesFirst_16 : decode cX3_makesFirst 16 = .ok (.goto 4, 3) := by decide +kernel
theorem dX3_makesFirst_19 : decode cX3_makesFirst 19 = .ok (.iconst 0, 1) := by decide +kernel
theorem dX3_makesFirst_20 : decode cX3_makesFirst 20 = .ok (.ireturn, 1) := by decide +kernel
theorem dX3_endAt_0 : decode cX3_endAt 0 = .ok (.aload_n 0, 1) := by decide +kernel
theorem dX3_endAt_1 : decode cX3_endAt 1 = .ok (.iload_n 1, 1) := by decide +kernel
theorem dX3_endAt_2 : decode cX3_endAt 2 = .ok (.iload_n 2, 1) := by decide +kernel
theorem dX3_endAt_3 : decode cX3_endAt 3 = .ok (.invokevirtual 64, 3) := by decide +kernel
theorem dX3_endAt_6 : decode cX3_endAt 6 = .ok (.ifCond .ne 12, 3) := by decide +kernel
theorem dX3_endAt_9 : decode cX3_endAt 9 = .ok (.iload_n 1, 1) := by decide +kernel
theorem dX3_endAt_10 : decode cX3_endAt 10 = .ok (.iconst 5, 1) := by decide +kernel
theorem dX3_endAt_11 : decode cX3_endAt 11 = .ok (.if_icmp .ne 11, 3) := by decide +kernel
theorem dX3_endAt_14 : decode cX3_endAt 14 = .ok (.iload_n 2, 1) := by decide +kernel
theorem dX3_endAt_15 : decode cX3_endAt 15 = .ok (.ifCond .ne 7, 3) := by decide +kernel
theorem dX3_endAt_18 : decode cX3_endAt 18 = .ok (.iconst 1, 1) := by decide +kernel
theorem dX3_endAt_19 : decode cX3_endAt 19 = .ok (.goto 4, 3) := by decide +kernel
theorem dX3_endAt_22 : decode cX3_endAt 22 = .ok (.iconst 0, 1) := by decide +kernel
theorem dX3_endAt_23 : decode cX3_endAt 23 = .ok (.istore 4, 2) := by decide +kernel
theorem dX3_endAt_25 : decode cX3_endAt 25 = .ok (.iload 4, 2) := by decide +kernel
theorem dX3_endAt_27 : decode cX3_endAt 27 = .ok (.ifCond .eq 17, 3) := by decide +kernel
theorem dX3_endAt_30 : decode cX3_endAt 30 = .ok (.iload_n 3, 1) := by decide +kernel
theorem dX3_endAt_31 : decode cX3_endAt 31 = .ok (.ifCond .lt 13, 3) := by decide +kernel
theorem dX3_endAt_34 : decode cX3_endAt 34 = .ok (.iload_n 3, 1) := by decide +kernel
theorem dX3_endAt_35 : decode cX3_endAt 35 = .ok (.aload_n 0, 1) := by decide +kernel
theorem dX3_endAt_36 : decode cX3_endAt 36 = .ok (.iload_n 1, 1) := by decide +kernel
theorem dX3_endAt_37 : decode cX3_endAt 37 = .ok (.iload_n 2, 1) := by decide +kernel
theorem dX3_endAt_38 : decode cX3_endAt 38 = .ok (.invokevirtual 68, 3) := by decide +kernel
theorem dX3_endAt_41 : decode cX3_endAt 41 = .ok (.if_icmp .lt 5, 3) := by decide +kernel
theorem dX3_endAt_44 : decode cX3_endAt 44 = .ok (.iconst (-1), 1) := by decide +kernel
theorem dX3_endAt_45 : decode cX3_endAt 45 = .ok (.ireturn, 1) := by decide +kernel
theorem dX3_endAt_46 : decode cX3_endAt 46 = .ok (.getstatic 72, 3) := by decide +kernel
theorem dX3_endAt_49 : decode cX3_endAt 49 = .ok (.iload_n 1, 1) := by decide +kernel
theorem dX3_endAt_50 : decode cX3_endAt 50 = .ok (.iaload, 1) := by decide +kernel
theorem dX3_endAt_51 : decode cX3_endAt 51 = .ok (.iload_n 2, 1) := by decide +kernel
theorem dX3_endAt_52 : decode cX3_endAt 52 = .ok (.iload_n 1, 1) := by decide +kernel
theorem dX3_endAt_53 : decode cX3_endAt 53 = .ok (.ifCond .ne 8, 3) := by decide +kernel
theorem dX3_endAt_56 : decode cX3_endAt 56 = .ok (.bipush 20, 2) := by decide +kernel
theorem dX3_endAt_58 : decode cX3_endAt 58 = .ok (.goto 4, 3) := by decide +kernel
theorem dX3_endAt_61 : decode cX3_endAt 61 = .ok (.iconst 2, 1) := by decide +kernel
theorem dX3_endAt_62 : decode cX3_endAt 62 = .ok (.imul, 1) := by decide +kernel
theorem dX3_endAt_63 : decode cX3_endAt 63 = .ok (.iadd, 1) := by decide +kernel
theorem dX3_endAt_64 : decode cX3_endAt 64 = .ok (.iload_n 3, 1) := by decide +kernel
theorem dX3_endAt_65 : decode cX3_endAt 65 = .ok (.iadd, 1) := by decide +kernel
theorem dX3_endAt_66 : decode cX3_endAt 66 = .ok (.ireturn, 1) := by decide +kernel
theorem dX3_endsOf_0 : decode cX3_endsOf 0 = .ok (.iload_n 1, 1) := by decide +kernel
theorem dX3_endsOf_1 : decode cX3_endsOf 1 = .ok (.ifCond .ne 16, 3) := by decide +kernel
theorem dX3_endsOf_4 : decode cX3_endsOf 4 = .ok (.iconst 2, 1) := by decide +kernel
theorem dX3_endsOf_5 : decode cX3_endsOf 5 = .ok (.iconst 3, 1) := by decide +kernel
theorem dX3_endsOf_6 : decode cX3_endsOf 6 = .ok (.aload_n 0, 1) := by decide +kernel
theorem dX3_endsOf_7 : decode cX3_endsOf 7 = .ok (.getfield 26, 3) := by decide +kernel
theorem dX3_endsOf_10 : decode cX3_endsOf 10 = .ok (.iload_n 2, 1) := by decide +kernel
theorem dX3_endsOf_11 : decode cX3_endsOf 11 = .ok (.iaload, 1) := by decide +kernel
theorem dX3_endsOf_12 : decode cX3_endsOf 12 = .ok (.imul, 1) := by decide +kernel
theorem dX3_endsOf_13 : decode cX3_endsOf 13 = .ok (.iadd, 1) := by decide +kernel
theorem dX3_endsOf_14 : decode cX3_endsOf 14 = .ok (.goto 4, 3) := by decide +kernel
theorem dX3_endsOf_17 : decode cX3_endsOf 17 = .ok (.iconst 2, 1) := by decide +kernel
theorem dX3_endsOf_18 : decode cX3_endsOf 18 = .ok (.ireturn, 1) := by decide +kernel
theorem dX3_toldEnds_0 : decode cX3_toldEnds 0 = .ok (.iconst 0, 1) := by decide +kernel
theorem dX3_toldEnds_1 : decode cX3_toldEnds 1 = .ok (.istore_n 2, 1) := by decide +kernel
theorem dX3_toldEnds_2 : decode cX3_toldEnds 2 = .ok (.iconst 0, 1) := by decide +kernel
theorem dX3_toldEnds_3 : decode cX3_toldEnds 3 = .ok (.istore_n 3, 1) := by decide +kernel
theorem dX3_toldEnds_4 : decode cX3_toldEnds 4 = .ok (.iload_n 3, 1) := by decide +kernel
theorem dX3_toldEnds_5 : decode cX3_toldEnds 5 = .ok (.bipush 20, 2) := by decide +kernel
theorem dX3_toldEnds_7 : decode cX3_toldEnds 7 = .ok (.if_icmp .ge 37, 3) := by decide +kernel
theorem dX3_toldEnds_10 : decode cX3_toldEnds 10 = .ok (.aload_n 0, 1) := by decide +kernel
theorem dX3_toldEnds_11 : decode cX3_toldEnds 11 = .ok (.iconst 0, 1) := by decide +kernel
theorem dX3_toldEnds_12 : decode cX3_toldEnds 12 = .ok (.iload_n 1, 1) := by decide +kernel
theorem dX3_toldEnds_13 : decode cX3_toldEnds 13 = .ok (.iload_n 3, 1) := by decide +kernel
theorem dX3_toldEnds_14 : decode cX3_toldEnds 14 = .ok (.invokevirtual 75, 3) := by decide +kernel
theorem dX3_toldEnds_17 : decode cX3_toldEnds 17 = .ok (.istore 4, 2) := by decide +kernel
theorem dX3_toldEnds_19 : decode cX3_toldEnds 19 = .ok (.iload 4, 2) := by decide +kernel
theorem dX3_toldEnds_21 : decode cX3_toldEnds 21 = .ok (.iconst (-1), 1) := by decide +kernel
theorem dX3_toldEnds_22 : decode cX3_toldEnds 22 = .ok (.if_icmp .eq 16, 3) := by decide +kernel
theorem dX3_toldEnds_25 : decode cX3_toldEnds 25 = .ok (.aload_n 0, 1) := by decide +kernel
theorem dX3_toldEnds_26 : decode cX3_toldEnds 26 = .ok (.getfield 38, 3) := by decide +kernel
theorem dX3_toldEnds_29 : decode cX3_toldEnds 29 = .ok (.iload 4, 2) := by decide +kernel
theorem dX3_toldEnds_31 : decode cX3_toldEnds 31 = .ok (.baload, 1) := by decide +kernel
theorem dX3_toldEnds_32 : decode cX3_toldEnds 32 = .ok (.ifCond .eq 6, 3) := by decide +kernel
theorem dX3_toldEnds_35 : decode cX3_toldEnds 35 = .ok (.iinc 2 1, 3) := by decide +kernel
theorem dX3_toldEnds_38 : decode cX3_toldEnds 38 = .ok (.iinc 3 1, 3) := by decide +kernel
theorem dX3_toldEnds_41 : decode cX3_toldEnds 41 = .ok (.goto (-37), 3) := by decide +kernel
theorem dX3_toldEnds_44 : decode cX3_toldEnds 44 = .ok (.iload_n 2, 1) := by decide +kernel
theorem dX3_toldEnds_45 : decode cX3_toldEnds 45 = .ok (.ireturn, 1) := by decide +kernel
theorem dX3_joinTold_0 : decode cX3_joinTold 0 = .ok (.iload_n 1, 1) := by decide +kernel
theorem dX3_joinTold_1 : decode cX3_joinTold 1 = .ok (.ifCond .lt 21, 3) := by decide +kernel
theorem dX3_joinTold_4 : decode cX3_joinTold 4 = .ok (.iload_n 1, 1) := by decide +kernel
theorem dX3_joinTold_5 : decode cX3_joinTold 5 = .ok (.sipush 954, 3) := by decide +kernel
theorem dX3_joinTold_8 : decode cX3_joinTold 8 = .ok (.if_icmp .ge 14, 3) := by decide +kernel
theorem dX3_joinTold_11 : decode cX3_joinTold 11 = .ok (.iload_n 2, 1) := by decide +kernel
theorem dX3_joinTold_12 : decode cX3_joinTold 12 = .ok (.ifCond .lt 10, 3) := by decide +kernel
theorem dX3_joinTold_15 : decode cX3_joinTold 15 = .ok (.iload_n 2, 1) := by decide +kernel
theorem dX3_joinTold_16 : decode cX3_joinTold 16 = .ok (.sipush 954, 3) := by decide +kernel
theorem dX3_joinTold_19 : decode cX3_joinTold 19 = .ok (.if_icmp .lt 4, 3) := by decide +kernel
theorem dX3_joinTold_22 : decode cX3_joinTold 22 = .ok (.return_, 1) := by decide +kernel
theorem dX3_joinTold_23 : decode cX3_joinTold 23 = .ok (.aload_n 0, 1) := by decide +kernel
theorem dX3_joinTold_24 : decode cX3_joinTold 24 = .ok (.getfield 38, 3) := by decide +kernel
theorem dX3_joinTold_27 : decode cX3_joinTold 27 = .ok (.iload_n 1, 1) := by decide +kernel
theorem dX3_joinTold_28 : decode cX3_joinTold 28 = .ok (.iconst 1, 1) := by decide +kernel
theorem dX3_joinTold_29 : decode cX3_joinTold 29 = .ok (.bastore, 1) := by decide +kernel
theorem dX3_joinTold_30 : decode cX3_joinTold 30 = .ok (.aload_n 0, 1) := by decide +kernel
theorem dX3_joinTold_31 : decode cX3_joinTold 31 = .ok (.getfield 38, 3) := by decide +kernel
theorem dX3_joinTold_34 : decode cX3_joinTold 34 = .ok (.iload_n 2, 1) := by decide +kernel
theorem dX3_joinTold_35 : decode cX3_joinTold 35 = .ok (.iconst 1, 1) := by decide +kernel
theorem dX3_joinTold_36 : decode cX3_joinTold 36 = .ok (.bastore, 1) := by decide +kernel
theorem dX3_joinTold_37 : decode cX3_joinTold 37 = .ok (.aload_n 0, 1) := by decide +kernel
theorem dX3_joinTold_38 : decode cX3_joinTold 38 = .ok (.getfield 42, 3) := by decide +kernel
theorem dX3_joinTold_41 : decode cX3_joinTold 41 = .ok (.aload_n 0, 1) := by decide +kernel
theorem dX3_joinTold_42 : decode cX3_joinTold 42 = .ok (.iload_n 1, 1) := by decide +kernel
theorem dX3_joinTold_43 : decode cX3_joinTold 43 = .ok (.invokevirtual 79, 3) := by decide +kernel
theorem dX3_joinTold_46 : decode cX3_joinTold 46 = .ok (.aload_n 0, 1) := by decide +kernel
theorem dX3_joinTold_47 : decode cX3_joinTold 47 = .ok (.iload_n 2, 1) := by decide +kernel
theorem dX3_joinTold_48 : decode cX3_joinTold 48 = .ok (.invokevirtual 79, 3) := by decide +kernel
theorem dX3_joinTold_51 : decode cX3_joinTold 51 = .ok (.iastore, 1) := by decide +kernel
theorem dX3_joinTold_52 : decode cX3_joinTold 52 = .ok (.return_, 1) := by decide +kernel
theorem dX3_headOf_0 : decode cX3_headOf 0 = .ok (.iload_n 1, 1) := by decide +kernel
theorem dX3_headOf_1 : decode cX3_headOf 1 = .ok (.istore_n 2, 1) := by decide +kernel
theorem dX3_headOf_2 : decode cX3_headOf 2 = .ok (.iconst 0, 1) := by decide +kernel
theorem dX3_headOf_3 : decode cX3_headOf 3 = .ok (.istore_n 3, 1) := by decide +kernel
theorem dX3_headOf_4 : decode cX3_headOf 4 = .ok (.iload_n 3, 1) := by decide +kernel
theorem dX3_headOf_5 : decode cX3_headOf 5 = .ok (.sipush 954, 3) := by decide +kernel
theorem dX3_headOf_8 : decode cX3_headOf 8 = .ok (.if_icmp .ge 43, 3) := by decide +kernel
theorem dX3_headOf_11 : decode cX3_headOf 11 = .ok (.aload_n 0, 1) := by decide +kernel
theorem dX3_headOf_12 : decode cX3_headOf 12 = .ok (.getfield 42, 3) := by decide +kernel
theorem dX3_headOf_15 : decode cX3_headOf 15 = .ok (.iload_n 2, 1) := by decide +kernel
theorem dX3_headOf_16 : decode cX3_headOf 16 = .ok (.iaload, 1) := by decide +kernel
theorem dX3_headOf_17 : decode cX3_headOf 17 = .ok (.iload_n 2, 1) := by decide +kernel
theorem dX3_headOf_18 : decode cX3_headOf 18 = .ok (.if_icmp .eq 33, 3) := by decide +kernel
theorem dX3_headOf_21 : decode cX3_headOf 21 = .ok (.aload_n 0, 1) := by decide +kernel
theorem dX3_headOf_22 : decode cX3_headOf 22 = .ok (.getfield 42, 3) := by decide +kernel
theorem dX3_headOf_25 : decode cX3_headOf 25 = .ok (.iload_n 2, 1) := by decide +kernel
theorem dX3_headOf_26 : decode cX3_headOf 26 = .ok (.aload_n 0, 1) := by decide +kernel
theorem dX3_headOf_27 : decode cX3_headOf 27 = .ok (.getfield 42, 3) := by decide +kernel
theorem dX3_headOf_30 : decode cX3_headOf 30 = .ok (.aload_n 0, 1) := by decide +kernel
theorem dX3_headOf_31 : decode cX3_headOf 31 = .ok (.getfield 42, 3) := by decide +kernel
theorem dX3_headOf_34 : decode cX3_headOf 34 = .ok (.iload_n 2, 1) := by decide +kernel
theorem dX3_headOf_35 : decode cX3_headOf 35 = .ok (.iaload, 1) := by decide +kernel
theorem dX3_headOf_36 : decode cX3_headOf 36 = .ok (.iaload, 1) := by decide +kernel
theorem dX3_headOf_37 : decode cX3_headOf 37 = .ok (.iastore, 1) := by decide +kernel
theorem dX3_headOf_38 : decode cX3_headOf 38 = .ok (.aload_n 0, 1) := by decide +kernel
theorem dX3_headOf_39 : decode cX3_headOf 39 = .ok (.getfield 42, 3) := by decide +kernel
theorem dX3_headOf_42 : decode cX3_headOf 42 = .ok (.iload_n 2, 1) := by decide +kernel
theorem dX3_headOf_43 : decode cX3_headOf 43 = .ok (.iaload, 1) := by decide +kernel
theorem dX3_headOf_44 : decode cX3_headOf 44 = .ok (.istore_n 2, 1) := by decide +kernel
theorem dX3_headOf_45 : decode cX3_headOf 45 = .ok (.iinc 3 1, 3) := by decide +kernel
theorem dX3_headOf_48 : decode cX3_headOf 48 = .ok (.goto (-44), 3) := by decide +kernel
theorem dX3_headOf_51 : decode cX3_headOf 51 = .ok (.iload_n 2, 1) := by decide +kernel
theorem dX3_headOf_52 : decode cX3_headOf 52 = .ok (.ireturn, 1) := by decide +kernel
theorem dX3_numberNets_0 : decode cX3_numberNets 0 = .ok (.aload_n 0, 1) := by decide +kernel
theorem dX3_numberNets_1 : decode cX3_numberNets 1 = .ok (.iconst 0, 1) := by decide +kernel
theorem dX3_numberNets_2 : decode cX3_numberNets 2 = .ok (.putfield 52, 3) := by decide +kernel
theorem dX3_numberNets_5 : decode cX3_numberNets 5 = .ok (.iconst 0, 1) := by decide +kernel
theorem dX3_numberNets_6 : decode cX3_numberNets 6 = .ok (.istore_n 1, 1) := by decide +kernel
theorem dX3_numberNets_7 : decode cX3_numberNets 7 = .ok (.iload_n 1, 1) := by decide +kernel
theorem dX3_numberNets_8 : decode cX3_numberNets 8 = .ok (.sipush 954, 3) := by decide +kernel
theorem dX3_numberNets_11 : decode cX3_numberNets 11 = .ok (.if_icmp .ge 63, 3) := by decide +kernel
theorem dX3_numberNets_14 : decode cX3_numberNets 14 = .ok (.aload_n 0, 1) := by decide +kernel
theorem dX3_numberNets_15 : decode cX3_numberNets 15 = .ok (.getfield 38, 3) := by decide +kernel
theorem dX3_numberNets_18 : decode cX3_numberNets 18 = .ok (.iload_n 1, 1) := by decide +kernel
theorem dX3_numberNets_19 : decode cX3_numberNets 19 = .ok (.baload, 1) := by decide +kernel
theorem dX3_numberNets_20 : decode cX3_numberNets 20 = .ok (.ifCond .eq 48, 3) := by decide +kernel
theorem dX3_numberNets_23 : decode cX3_numberNets 23 = .ok (.aload_n 0, 1) := by decide +kernel
theorem dX3_numberNets_24 : decode cX3_numberNets 24 = .ok (.iload_n 1, 1) := by decide +kernel
theorem dX3_numberNets_25 : decode cX3_numberNets 25 = .ok (.invokevirtual 79, 3) := by decide +kernel
theorem dX3_numberNets_28 : decode cX3_numberNets 28 = .ok (.istore_n 2, 1) := by decide +kernel
theorem dX3_numberNets_29 : decode cX3_numberNets 29 = .ok (.aload_n 0, 1) := by decide +kernel
theorem dX3_numberNets_30 : decode cX3_numberNets 30 = .ok (.getfield 45, 3) := by decide +kernel
theorem dX3_numberNets_33 : decode cX3_numberNets 33 = .ok (.iload_n 2, 1) := by decide +kernel
theorem dX3_numberNets_34 : decode cX3_numberNets 34 = .ok (.iaload, 1) := by decide +kernel
theorem dX3_numberNets_35 : decode cX3_numberNets 35 = .ok (.iconst (-1), 1) := by decide +kernel
theorem dX3_numberNets_36 : decode cX3_numberNets 36 = .ok (.if_icmp .ne 20, 3) := by decide +kernel
theorem dX3_numberNets_39 : decode cX3_numberNets 39 = .ok (.aload_n 0, 1) := by decide +kernel
theorem dX3_numberNets_40 : decode cX3_numberNets 40 = .ok (.getfield 45, 3) := by decide +kernel
theorem dX3_numberNets_43 : decode cX3_numberNets 43 = .ok (.iload_n 2, 1) := by decide +kernel
theorem dX3_numberNets_44 : decode cX3_numberNets 44 = .ok (.aload_n 0, 1) := by decide +kernel
theorem dX3_numberNets_45 : decode cX3_numberNets 45 = .ok (.dup, 1) := by decide +kernel
theorem dX3_numberNets_46 : decode cX3_numberNets 46 = .ok (.getfield 52, 3) := by decide +kernel
theorem dX3_numberNets_49 : decode cX3_numberNets 49 = .ok (.dup_x1, 1) := by decide +kernel
theorem dX3_numberNets_50 : decode cX3_numberNets 50 = .ok (.iconst 1, 1) := by decide +kernel
theorem dX3_numberNets_51 : decode cX3_numberNets 51 = .ok (.iadd, 1) := by decide +kernel
theorem dX3_numberNets_52 : decode cX3_numberNets 52 = .ok (.putfield 52, 3) := by decide +kernel
theorem dX3_numberNets_55 : decode cX3_numberNets 55 = .ok (.iastore, 1) := by decide +kernel
theorem dX3_numberNets_56 : decode cX3_numberNets 56 = .ok (.aload_n 0, 1) := by decide +kernel
theorem dX3_numberNets_57 : decode cX3_numberNets 57 = .ok (.getfield 45, 3) := by decide +kernel
theorem dX3_numberNets_60 : decode cX3_numberNets 60 = .ok (.iload_n 1, 1) := by decide +kernel
theorem dX3_numberNets_61 : decode cX3_numberNets 61 = .ok (.aload_n 0, 1) := by decide +kernel
theorem dX3_numberNets_62 : decode cX3_numberNets 62 = .ok (.getfield 45, 3) := by decide +kernel
theorem dX3_numberNets_65 : decode cX3_numberNets 65 = .ok (.iload_n 2, 1) := by decide +kernel
theorem dX3_numberNets_66 : decode cX3_numberNets 66 = .ok (.iaload, 1) := by decide +kernel
theorem dX3_numberNets_67 : decode cX3_numberNets 67 = .ok (.iastore, 1) := by decide +kernel
theorem dX3_numberNets_68 : decode cX3_numberNets 68 = .ok (.iinc 1 1, 3) := by decide +kernel
theorem dX3_numberNets_71 : decode cX3_numberNets 71 = .ok (.goto (-64), 3) := by decide +kernel
theorem dX3_numberNets_74 : decode cX3_numberNets 74 = .ok (.aload_n 0, 1) := by decide +kernel
theorem dX3_numberNets_75 : decode cX3_numberNets 75 = .ok (.aload_n 0, 1) := by decide +kernel
theorem dX3_numberNets_76 : decode cX3_numberNets 76 = .ok (.getfield 52, 3) := by decide +kernel
theorem dX3_numberNets_79 : decode cX3_numberNets 79 = .ok (.putfield 48, 3) := by decide +kernel
theorem dX3_numberNets_82 : decode cX3_numberNets 82 = .ok (.iconst 0, 1) := by decide +kernel
theorem dX3_numberNets_83 : decode cX3_numberNets 83 = .ok (.istore_n 1, 1) := by decide +kernel
theorem dX3_numberNets_84 : decode cX3_numberNets 84 = .ok (.iload_n 1, 1) := by decide +kernel
theorem dX3_numberNets_85 : decode cX3_numberNets 85 = .ok (.iconst 5, 1) := by decide +kernel
theorem dX3_numberNets_86 : decode cX3_numberNets 86 = .ok (.if_icmp .ge 33, 3) := by decide +kernel
theorem dX3_numberNets_89 : decode cX3_numberNets 89 = .ok (.iconst 0, 1) := by decide +kernel
theorem dX3_numberNets_90 : decode cX3_numberNets 90 = .ok (.istore_n 2, 1) := by decide +kernel
theorem dX3_numberNets_91 : decode cX3_numberNets 91 = .ok (.iload_n 2, 1) := by decide +kernel
theorem dX3_numberNets_92 : decode cX3_numberNets 92 = .ok (.aload_n 0, 1) := by decide +kernel
theorem dX3_numberNets_93 : decode cX3_numberNets 93 = .ok (.getfield 9, 3) := by decide +kernel
theorem dX3_numberNets_96 : decode cX3_numberNets 96 = .ok (.iload_n 1, 1) := by decide +kernel
theorem dX3_numberNets_97 : decode cX3_numberNets 97 = .ok (.iaload, 1) := by decide +kernel
theorem dX3_numberNets_98 : decode cX3_numberNets 98 = .ok (.if_icmp .ge 15, 3) := by decide +kernel
theorem dX3_numberNets_101 : decode cX3_numberNets 101 = .ok (.aload_n 0, 1) := by decide +kernel
theorem dX3_numberNets_102 : decode cX3_numberNets 102 = .ok (.iload_n 1, 1) := by decide +kernel
theorem dX3_numberNets_103 : decode cX3_numberNets 103 = .ok (.iload_n 2, 1) := by decide +kernel
theorem dX3_numberNets_104 : decode cX3_numberNets 104 = .ok (.invokevirtual 83, 3) := by decide +kernel
theorem dX3_numberNets_107 : decode cX3_numberNets 107 = .ok (.iinc 2 1, 3) := by decide +kernel
theorem dX3_numberNets_110 : decode cX3_numberNets 110 = .ok (.goto (-19), 3) := by decide +kernel
theorem dX3_numberNets_113 : decode cX3_numberNets 113 = .ok (.iinc 1 1, 3) := by decide +kernel
theorem dX3_numberNets_116 : decode cX3_numberNets 116 = .ok (.goto (-32), 3) := by decide +kernel
theorem dX3_numberNets_119 : decode cX3_numberNets 119 = .ok (.aload_n 0, 1) := by decide +kernel
theorem dX3_numberNets_120 : decode cX3_numberNets 120 = .ok (.iconst 5, 1) := by decide +kernel
theorem dX3_numberNets_121 : decode cX3_numberNets 121 = .ok (.iconst 0, 1) := by decide +kernel
theorem dX3_numberNets_122 : decode cX3_numberNets 122 = .ok (.invokevirtual 83, 3) := by decide +kernel
theorem dX3_numberNets_125 : decode cX3_numberNets 125 = .ok (.return_, 1) := by decide +kernel
theorem dX3_numberUntold_0 : decode cX3_numberUntold 0 = .ok (.iconst 0, 1) := by decide +kernel
theorem dX3_numberUntold_1 : decode cX3_numberUntold 1 = .ok (.istore_n 3, 1) := by decide +kernel
theorem dX3_numberUntold_2 : decode cX3_numberUntold 2 = .ok (.iload_n 3, 1) := by decide +kernel
theorem dX3_numberUntold_3 : decode cX3_numberUntold 3 = .ok (.bipush 20, 2) := by decide +kernel
theorem dX3_numberUntold_5 : decode cX3_numberUntold 5 = .ok (.if_icmp .ge 53, 3) := by decide +kernel
theorem dX3_numberUntold_8 : decode cX3_numberUntold 8 = .ok (.aload_n 0, 1) := by decide +kernel
theorem dX3_numberUntold_9 : decode cX3_numberUntold 9 = .ok (.iload_n 1, 1) := by decide +kernel
theorem dX3_numberUntold_10 : decode cX3_numberUntold 10 = .ok (.iload_n 2, 1) := by decide +kernel
theorem dX3_numberUntold_11 : decode cX3_numberUntold 11 = .ok (.iload_n 3, 1) := by decide +kernel
theorem dX3_numberUntold_12 : decode cX3_numberUntold 12 = .ok (.invokevirtual 75, 3) := by decide +kernel
theorem dX3_numberUntold_15 : decode cX3_numberUntold 15 = .ok (.istore 4, 2) := by decide +kernel
theorem dX3_numberUntold_17 : decode cX3_numberUntold 17 = .ok (.iload 4, 2) := by decide +kernel
theorem dX3_numberUntold_19 : decode cX3_numberUntold 19 = .ok (.iconst (-1), 1) := by decide +kernel
theorem dX3_numberUntold_20 : decode cX3_numberUntold 20 = .ok (.if_icmp .eq 32, 3) := by decide +kernel
theorem dX3_numberUntold_23 : decode cX3_numberUntold 23 = .ok (.aload_n 0, 1) := by decide +kernel
theorem dX3_numberUntold_24 : decode cX3_numberUntold 24 = .ok (.getfield 45, 3) := by decide +kernel
theorem dX3_numberUntold_27 : decode cX3_numberUntold 27 = .ok (.iload 4, 2) := by decide +kernel
theorem dX3_numberUntold_29 : decode cX3_numberUntold 29 = .ok (.iaload, 1) := by decide +kernel
theorem dX3_numberUntold_30 : decode cX3_numberUntold 30 = .ok (.iconst (-1), 1) := by decide +kernel
theorem dX3_numberUntold_31 : decode cX3_numberUntold 31 = .ok (.if_icmp .ne 21, 3) := by decide +kernel
theorem dX3_numberUntold_34 : decode cX3_numberUntold 34 = .ok (.aload_n 0, 1) := by decide +kernel
theorem dX3_numberUntold_35 : decode cX3_numberUntold 35 = .ok (.getfield 45, 3) := by decide +kernel
theorem dX3_numberUntold_38 : decode cX3_numberUntold 38 = .ok (.iload 4, 2) := by decide +kernel
theorem dX3_numberUntold_40 : decode cX3_numberUntold 40 = .ok (.aload_n 0, 1) := by decide +kernel
theorem dX3_numberUntold_41 : decode cX3_numberUntold 41 = .ok (.dup, 1) := by decide +kernel
theorem dX3_numberUntold_42 : decode cX3_numberUntold 42 = .ok (.getfield 52, 3) := by decide +kernel
theorem dX3_numberUntold_45 : decode cX3_numberUntold 45 = .ok (.dup_x1, 1) := by decide +kernel
theorem dX3_numberUntold_46 : decode cX3_numberUntold 46 = .ok (.iconst 1, 1) := by decide +kernel
theorem dX3_numberUntold_47 : decode cX3_numberUntold 47 = .ok (.iadd, 1) := by decide +kernel
theorem dX3_numberUntold_48 : decode cX3_numberUntold 48 = .ok (.putfield 52, 3) := by decide +kernel
theorem dX3_numberUntold_51 : decode cX3_numberUntold 51 = .ok (.iastore, 1) := by decide +kernel
theorem dX3_numberUntold_52 : decode cX3_numberUntold 52 = .ok (.iinc 3 1, 3) := by decide +kernel
theorem dX3_numberUntold_55 : decode cX3_numberUntold 55 = .ok (.goto (-53), 3) := by decide +kernel
theorem dX3_numberUntold_58 : decode cX3_numberUntold 58 = .ok (.return_, 1) := by decide +kernel
theorem dX4_init_0 : decode cX4_init 0 = .ok (.aload_n 0, 1) := by decide +kernel
theorem dX4_init_1 : decode cX4_init 1 = .ok (.invokespecial 3, 3) := by decide +kernel
theorem dX4_init_4 : decode cX4_init 4 = .ok (.aload_n 0, 1) := by decide +kernel
theorem dX4_init_5 : decode cX4_init 5 = .ok (.new 9, 3) := by decide +kernel
theorem dX4_init_8 : decode cX4_init 8 = .ok (.dup, 1) := by decide +kernel
theorem dX4_init_9 : decode cX4_init 9 = .ok (.invokespecial 11, 3) := by decide +kernel
theorem dX4_init_12 : decode cX4_init 12 = .ok (.putfield 12, 3) := by decide +kernel
theorem dX4_init_15 : decode cX4_init 15 = .ok (.aload_n 0, 1) := by decide +kernel
theorem dX4_init_16 : decode cX4_init 16 = .ok (.new 9, 3) := by decide +kernel
theorem dX4_init_19 : decode cX4_init 19 = .ok (.dup, 1) := by decide +kernel
theorem dX4_init_20 : decode cX4_init 20 = .ok (.invokespecial 11, 3) := by decide +kernel
theorem dX4_init_23 : decode cX4_init 23 = .ok (.putfield 18, 3) := by decide +kernel
theorem dX4_init_26 : decode cX4_init 26 = .ok (.aload_n 0, 1) := by decide +kernel
theorem dX4_init_27 : decode cX4_init 27 = .ok (.new 9, 3) := by decide +kernel
theorem dX4_init_30 : decode cX4_init 30 = .ok (.dup, 1) := by decide +kernel
theorem dX4_init_31 : decode cX4_init 31 = .ok (.invokespecial 11, 3) := by decide +kernel
theorem dX4_init_34 : decode cX4_init 34 = .ok (.putfield 21, 3) := by decide +kernel
theorem dX4_init_37 : decode cX4_init 37 = .ok (.aload_n 0, 1) := by decide +kernel
theorem dX4_init_38 : decode cX4_init 38 = .ok (.lconst 0, 1) := by decide +kernel
theorem dX4_init_39 : decode cX4_init 39 = .ok (.putfield 24, 3) := by decide +kernel
theorem dX4_init_42 : decode cX4_init 42 = .ok (.aload_n 0, 1) := by decide +kernel
theorem dX4_init_43 : decode cX4_init 43 = .ok (.iconst (-1), 1) := by decide +kernel
theorem dX4_init_44 : decode cX4_init 44 = .ok (.putfield 28, 3) := by decide +kernel
theorem dX4_init_47 : decode cX4_init 47 = .ok (.return_, 1) := by decide +kernel
theorem dX4_clear_0 : decode cX4_clear 0 = .ok (.aload_n 0, 1) := by decide +kernel
theorem dX4_clear_1 : decode cX4_clear 1 = .ok (.iconst (-1), 1) := by decide +kernel
theorem dX4_clear_2 : decode cX4_clear 2 = .ok (.putfield 28, 3) := by decide +kernel
theorem dX4_clear_5 : decode cX4_clear 5 = .ok (.return_, 1) := by decide +kernel
theorem dX4_begin_0 : decode cX4_begin 0 = .ok (.aload_n 0, 1) := by decide +kernel
theorem dX4_begin_1 : decode cX4_begin 1 = .ok (.iconst (-1), 1) := by decide +kernel
theorem dX4_begin_2 : decode cX4_begin 2 = .ok (.putfield 28, 3) := by decide +kernel
theorem dX4_begin_5 : decode cX4_begin 5 = .ok (.aload_n 0, 1) := by decide +kernel
theorem dX4_begin_6 : decode cX4_begin 6 = .ok (.getfield 12, 3) := by decide +kernel
theorem dX4_begin_9 : decode cX4_begin 9 = .ok (.aload_n 1, 1) := by decide +kernel
theorem dX4_begin_10 : decode cX4_begin 10 = .ok (.invokevirtual 32, 3) := by decide +kernel
theorem dX4_begin_13 : decode cX4_begin 13 = .ok (.return_, 1) := by decide +kernel
theorem dX4_keep_0 : decode cX4_keep 0 = .ok (.aload_n 0, 1) := by decide +kernel
theorem dX4_keep_1 : decode cX4_keep 1 = .ok (.iload_n 1, 1) := by decide +kernel
theorem dX4_keep_2 : decode cX4_keep 2 = .ok (.putfield 28, 3) := by decide +kernel
theorem dX4_keep_5 : decode cX4_keep 5 = .ok (.return_, 1) := by decide +kernel
theorem dX4_advance_0 : decode cX4_advance 0 = .ok (.aload_n 0, 1) := by decide +kernel
theorem dX4_advance_1 : decode cX4_advance 1 = .ok (.getfield 18, 3) := by decide +kernel
theorem dX4_advance_4 : decode cX4_advance 4 = .ok (.aload_n 0, 1) := by decide +kernel
theorem dX4_advance_5 : decode cX4_advance 5 = .ok (.getfield 12, 3) := by decide +kernel
theorem dX4_advance_8 : decode cX4_advance 8 = .ok (.invokevirtual 32, 3) := by decide +kernel
theorem dX4_advance_11 : decode cX4_advance 11 = .ok (.aload_n 1, 1) := by decide +kernel
theorem dX4_advance_12 : decode cX4_advance 12 = .ok (.aload_n 0, 1) := by decide +kernel
theorem dX4_advance_13 : decode cX4_advance 13 = .ok (.getfield 12, 3) := by decide +kernel
theorem dX4_advance_16 : decode cX4_advance 16 = .ok (.iconst (-1), 1) := by decide +kernel
theorem dX4_advance_17 : decode cX4_advance 17 = .ok (.lconst 0, 1) := by decide +kernel
theorem dX4_advance_18 : decode cX4_advance 18 = .ok (.invokevirtual 36, 3) := by decide +kernel
theorem dX4_advance_21 : decode cX4_advance 21 = .ok (.aload_n 0, 1) := by decide +kernel
theorem dX4_advance_22 : decode cX4_advance 22 = .ok (.aload_n 0, 1) := by decide +kernel
theorem dX4_advance_23 : decode cX4_advance 23 = .ok (.getfield 18, 3) := by decide +kernel
theorem dX4_advance_26 : decode cX4_advance 26 = .ok (.getfield 42, 3) := by decide +kernel
theorem dX4_advance_29 : decode cX4_advance 29 = .ok (.aload_n 0, 1) := by decide +kernel
theorem dX4_advance_30 : decode cX4_advance 30 = .ok (.getfield 12, 3) := by decide +kernel
theorem dX4_advance_33 : decode cX4_advance 33 = .ok (.getfield 42, 3) := by decide +kernel
theorem dX4_advance_36 : decode cX4_advance 36 = .ok (.lxor, 1) := by decide +kernel
theorem dX4_advance_37 : decode cX4_advance 37 = .ok (.putfield 24, 3) := by decide +kernel
theorem dX4_advance_40 : decode cX4_advance 40 = .ok (.aload_n 0, 1) := by decide +kernel
theorem dX4_advance_41 : decode cX4_advance 41 = .ok (.getfield 24, 3) := by decide +kernel
theorem dX4_advance_44 : decode cX4_advance 44 = .ok (.invokestatic 45, 3) := by decide +kernel
theorem dX4_advance_47 : decode cX4_advance 47 = .ok (.ireturn, 1) := by decide +kernel
theorem dX4_dependsOnOrder_0 : decode cX4_dependsOnOrder 0 = .ok (.iconst 1, 1) := by decide +kernel
theorem dX4_dependsOnOrder_1 : decode cX4_dependsOnOrder 1 = .ok (.istore_n 3, 1) := by decide +kernel
theorem dX4_dependsOnOrder_2 : decode cX4_dependsOnOrder 2 = .ok (.iconst 2, 1) := by decide +kernel
theorem dX4_dependsOnOrder_3 : decode cX4_dependsOnOrder 3 = .ok (.istore 4, 2) := by decide +kernel
theorem dX4_dependsOnOrder_5 : decode cX4_dependsOnOrder 5 = .ok (.iload 4, 2) := by decide +kernel
theorem dX4_dependsOnOrder_7 : decode cX4_dependsOnOrder 7 = .ok (.aload_n 0, 1) := by decide +kernel
theorem dX4_dependsOnOrder_8 : decode cX4_dependsOnOrder 8 = .ok (.getfield 24, 3) := by decide +kernel
theorem dX4_dependsOnOrder_11 : decode cX4_dependsOnOrder 11 = .ok (.invokestatic 45, 3) := by decide +kernel
theorem dX4_dependsOnOrder_14 : decode cX4_dependsOnOrder 14 = .ok (.if_icmp .gt 14, 3) := by decide +kernel
theorem dX4_dependsOnOrder_17 : decode cX4_dependsOnOrder 17 = .ok (.iload_n 3, 1) := by decide +kernel
theorem dX4_dependsOnOrder_18 : decode cX4_dependsOnOrder 18 = .ok (.iload 4, 2) := by decide +kernel
theorem dX4_dependsOnOrder_20 : decode cX4_dependsOnOrder 20 = .ok (.imul, 1) := by decide +kernel
theorem dX4_dependsOnOrder_21 : decode cX4_dependsOnOrder 21 = .ok (.istore_n 3, 1) := by decide +kernel
theorem dX4_dependsOnOrder_22 : decode cX4_dependsOnOrder 22 = .ok (.iinc 4 1, 3) := by decide +kernel
theorem dX4_dependsOnOrder_25 : decode cX4_dependsOnOrder 25 = .ok (.goto (-20), 3) := by decide +kernel
theorem dX4_dependsOnOrder_28 : decode cX4_dependsOnOrder 28 = .ok (.aload_n 0, 1) := by decide +kernel
theorem dX4_dependsOnOrder_29 : decode cX4_dependsOnOrder 29 = .ok (.aload_n 1, 1) := by decide +kernel
theorem dX4_dependsOnOrder_30 : decode cX4_dependsOnOrder 30 = .ok (.iconst 0, 1) := by decide +kernel
theorem dX4_dependsOnOrder_31 : decode cX4_dependsOnOrder 31 = .ok (.iload_n 2, 1) := by decide +kernel
theorem dX4_dependsOnOrder_32 : decode cX4_dependsOnOrder 32 = .ok (.invokevirtual 51, 3) := by decide +kernel
theorem dX4_dependsOnOrder_35 : decode cX4_dependsOnOrder 35 = .ok (.lstore 4, 2) := by decide +kernel
theorem dX4_dependsOnOrder_37 : decode cX4_dependsOnOrder 37 = .ok (.iconst 1, 1) := by decide +kernel
theorem dX4_dependsOnOrder_38 : decode cX4_dependsOnOrder 38 = .ok (.istore 6, 2) := by decide +kernel
theorem dX4_dependsOnOrder_40 : decode cX4_dependsOnOrder 40 = .ok (.iload 6, 2) := by decide +kernel
theorem dX4_dependsOnOrder_42 : decode cX4_dependsOnOrder 42 = .ok (.iload_n 3, 1) := by decide +kernel
theorem dX4_dependsOnOrder_43 : decode cX4_dependsOnOrder 43 = .ok (.if_icmp .ge 25, 3) := by decide +kernel
theorem dX4_dependsOnOrder_46 : decode cX4_dependsOnOrder 46 = .ok (.aload_n 0, 1) := by decide +kernel
theorem dX4_dependsOnOrder_47 : decode cX4_dependsOnOrder 47 = .ok (.aload_n 1, 1) := by decide +kernel
theorem dX4_dependsOnOrder_48 : decode cX4_dependsOnOrder 48 = .ok (.iload 6, 2) := by decide +kernel
theorem dX4_dependsOnOrder_50 : decode cX4_dependsOnOrder 50 = .ok (.iload_n 2, 1) := by decide +kernel
theorem dX4_dependsOnOrder_51 : decode cX4_dependsOnOrder 51 = .ok (.invokevirtual 51, 3) := by decide +kernel
theorem dX4_dependsOnOrder_54 : decode cX4_dependsOnOrder 54 = .ok (.lload 4, 2) := by decide +kernel
theorem dX4_dependsOnOrder_56 : decode cX4_dependsOnOrder 56 = .ok (.lcmp, 1) := by decide +kernel
theorem dX4_dependsOnOrder_57 : decode cX4_dependsOnOrder 57 = .ok (.ifCond .eq 5, 3) := by decide +kernel
theorem dX4_dependsOnOrder_60 : decode cX4_dependsOnOrder 60 = .ok (.iconst 1, 1) := by decide +kernel
theorem dX4_dependsOnOrder_61 : decode cX4_dependsOnOrder 61 = .ok (.ireturn, 1) := by decide +kernel
theorem dX4_dependsOnOrder_62 : decode cX4_dependsOnOrder 62 = .ok (.iinc 6 1, 3) := by decide +kernel
theorem dX4_dependsOnOrder_65 : decode cX4_dependsOnOrder 65 = .ok (.goto (-25), 3) := by decide +kernel
theorem dX4_dependsOnOrder_68 : decode cX4_dependsOnOrder 68 = .ok (.iconst 0, 1) := by decide +kernel
theorem dX4_dependsOnOrder_69 : decode cX4_dependsOnOrder 69 = .ok (.ireturn, 1) := by decide +kernel
theorem dX4_pickedBehind_0 : decode cX4_pickedBehind 0 = .ok (.aload_n 0, 1) := by decide +kernel
theorem dX4_pickedBehind_1 : decode cX4_pickedBehind 1 = .ok (.getfield 21, 3) := by decide +kernel
theorem dX4_pickedBehind_4 : decode cX4_pickedBehind 4 = .ok (.aload_n 0, 1) := by decide +kernel
theorem dX4_pickedBehind_5 : decode cX4_pickedBehind 5 = .ok (.getfield 18, 3) := by decide +kernel
theorem dX4_pickedBehind_8 : decode cX4_pickedBehind 8 = .ok (.invokevirtual 32, 3) := by decide +kernel
theorem dX4_pickedBehind_11 : decode cX4_pickedBehind 11 = .ok (.aload_n 0, 1) := by decide +kernel
theorem dX4_pickedBehind_12 : decode cX4_pickedBehind 12 = .ok (.getfield 24, 3) := by decide +kernel
theorem dX4_pickedBehind_15 : decode cX4_pickedBehind 15 = .ok (.lstore 4, 2) := by decide +kernel
theorem dX4_pickedBehind_17 : decode cX4_pickedBehind 17 = .ok (.iload_n 2, 1) := by decide +kernel
theorem dX4_pickedBehind_18 : decode cX4_pickedBehind 18 = .ok (.istore 6, 2) := by decide +kernel
theorem dX4_pickedBehind_20 : decode cX4_pickedBehind 20 = .ok (.aload_n 0, 1) := by decide +kernel
theorem dX4_pickedBehind_21 : decode cX4_pickedBehind 21 = .ok (.getfield 24, 3) := by decide +kernel
theorem dX4_pickedBehind_24 : decode cX4_pickedBehind 24 = .ok (.invokestatic 45, 3) := by decide +kernel
theorem dX4_pickedBehind_27 : decode cX4_pickedBehind 27 = .ok (.istore 7, 2) := by decide +kernel
theorem dX4_pickedBehind_29 : decode cX4_pickedBehind 29 = .ok (.iconst 0, 1) := by decide +kernel
theorem dX4_pickedBehind_30 : decode cX4_pickedBehind 30 = .ok (.istore 8, 2) := by decide +kernel
theorem dX4_pickedBehind_32 : decode cX4_pickedBehind 32 = .ok (.iload 8, 2) := by decide +kernel
theorem dX4_pickedBehind_34 : decode cX4_pickedBehind 34 = .ok (.iload_n 3, 1) := by decide +kernel
theorem dX4_pickedBehind_35 : decode cX4_pickedBehind 35 = .ok (.if_icmp .ge 64, 3) := by decide +kernel
theorem dX4_pickedBehind_38 : decode cX4_pickedBehind 38 = .ok (.iconst (-1), 1) := by decide +kernel
theorem dX4_pickedBehind_39 : decode cX4_pickedBehind 39 = .ok (.istore 9, 2) := by decide +kernel
theorem dX4_pickedBehind_41 : decode cX4_pickedBehind 41 = .ok (.iload 7, 2) := by decide +kernel
theorem dX4_pickedBehind_43 : decode cX4_pickedBehind 43 = .ok (.ifCond .le 38, 3) := by decide +kernel
theorem dX4_pickedBehind_46 : decode cX4_pickedBehind 46 = .ok (.lload 4, 2) := by decide +kernel
theorem dX4_pickedBehind_48 : decode cX4_pickedBehind 48 = .ok (.iload 6, 2) := by decide +kernel
theorem dX4_pickedBehind_50 : decode cX4_pickedBehind 50 = .ok (.iload 7, 2) := by decide +kernel
theorem dX4_pickedBehind_52 : decode cX4_pickedBehind 52 = .ok (.irem, 1) := by decide +kernel
theorem dX4_pickedBehind_53 : decode cX4_pickedBehind 53 = .ok (.invokestatic 55, 3) := by decide +kernel
theorem dX4_pickedBehind_56 : decode cX4_pickedBehind 56 = .ok (.istore 9, 2) := by decide +kernel
theorem dX4_pickedBehind_58 : decode cX4_pickedBehind 58 = .ok (.iload 6, 2) := by decide +kernel
theorem dX4_pickedBehind_60 : decode cX4_pickedBehind 60 = .ok (.iload 7, 2) := by decide +kernel
theorem dX4_pickedBehind_62 : decode cX4_pickedBehind 62 = .ok (.idiv, 1) := by decide +kernel
theorem dX4_pickedBehind_63 : decode cX4_pickedBehind 63 = .ok (.istore 6, 2) := by decide +kernel
theorem dX4_pickedBehind_65 : decode cX4_pickedBehind 65 = .ok (.lload 4, 2) := by decide +kernel
theorem dX4_pickedBehind_67 : decode cX4_pickedBehind 67 = .ok (.lconst 1, 1) := by decide +kernel
theorem dX4_pickedBehind_68 : decode cX4_pickedBehind 68 = .ok (.iload 9, 2) := by decide +kernel
theorem dX4_pickedBehind_70 : decode cX4_pickedBehind 70 = .ok (.lshl, 1) := by decide +kernel
theorem dX4_pickedBehind_71 : decode cX4_pickedBehind 71 = .ok (.ldc2_w 59, 3) := by decide +kernel
theorem dX4_pickedBehind_74 : decode cX4_pickedBehind 74 = .ok (.lxor, 1) := by decide +kernel
theorem dX4_pickedBehind_75 : decode cX4_pickedBehind 75 = .ok (.land, 1) := by decide +kernel
theorem dX4_pickedBehind_76 : decode cX4_pickedBehind 76 = .ok (.lstore 4, 2) := by decide +kernel
theorem dX4_pickedBehind_78 : decode cX4_pickedBehind 78 = .ok (.iinc 7 (-1), 3) := by decide +kernel
theorem dX4_pickedBehind_81 : decode cX4_pickedBehind 81 = .ok (.aload_n 1, 1) := by decide +kernel
theorem dX4_pickedBehind_82 : decode cX4_pickedBehind 82 = .ok (.aload_n 0, 1) := by decide +kernel
theorem dX4_pickedBehind_83 : decode cX4_pickedBehind 83 = .ok (.getfield 21, 3) := by decide +kernel
theorem dX4_pickedBehind_86 : decode cX4_pickedBehind 86 = .ok (.iload 9, 2) := by decide +kernel
theorem dX4_pickedBehind_88 : decode cX4_pickedBehind 88 = .ok (.lload 4, 2) := by decide +kernel
theorem dX4_pickedBehind_90 : decode cX4_pickedBehind 90 = .ok (.invokevirtual 36, 3) := by decide +kernel
theorem dX4_pickedBehind_93 : decode cX4_pickedBehind 93 = .ok (.iinc 8 1, 3) := by decide +kernel
theorem dX4_pickedBehind_96 : decode cX4_pickedBehind 96 = .ok (.goto (-64), 3) := by decide +kernel
theorem dX4_pickedBehind_99 : decode cX4_pickedBehind 99 = .ok (.aload_n 0, 1) := by decide +kernel
theorem dX4_pickedBehind_100 : decode cX4_pickedBehind 100 = .ok (.getfield 21, 3) := by decide +kernel
theorem dX4_pickedBehind_103 : decode cX4_pickedBehind 103 = .ok (.getfield 42, 3) := by decide +kernel
theorem dX4_pickedBehind_106 : decode cX4_pickedBehind 106 = .ok (.lreturn, 1) := by decide +kernel
theorem dX4_member_0 : decode cX4_member 0 = .ok (.iconst 0, 1) := by decide +kernel
theorem dX4_member_1 : decode cX4_member 1 = .ok (.istore_n 3, 1) := by decide +kernel
theorem dX4_member_2 : decode cX4_member 2 = .ok (.iconst 0, 1) := by decide +kernel
theorem dX4_member_3 : decode cX4_member 3 = .ok (.istore 4, 2) := by decide +kernel
theorem dX4_member_5 : decode cX4_member 5 = .ok (.iload 4, 2) := by decide +kernel
theorem dX4_member_7 : decode cX4_member 7 = .ok (.bipush 40, 2) := by decide +kernel
theorem dX4_member_9 : decode cX4_member 9 = .ok (.if_icmp .ge 31, 3) := by decide +kernel
theorem dX4_member_12 : decode cX4_member 12 = .ok (.lload_n 0, 1) := by decide +kernel
theorem dX4_member_13 : decode cX4_member 13 = .ok (.iload 4, 2) := by decide +kernel
theorem dX4_member_15 : decode cX4_member 15 = .ok (.lshr, 1) := by decide +kernel
theorem dX4_member_16 : decode cX4_member 16 = .ok (.lconst 1, 1) := by decide +kernel
theorem dX4_member_17 : decode cX4_member 17 = .ok (.land, 1) := by decide +kernel
theorem dX4_member_18 : decode cX4_member 18 = .ok (.lconst 0, 1) := by decide +kernel
theorem dX4_member_19 : decode cX4_member 19 = .ok (.lcmp, 1) := by decide +kernel
theorem dX4_member_20 : decode cX4_member 20 = .ok (.ifCond .eq 14, 3) := by decide +kernel
theorem dX4_member_23 : decode cX4_member 23 = .ok (.iload_n 3, 1) := by decide +kernel
theorem dX4_member_24 : decode cX4_member 24 = .ok (.iload_n 2, 1) := by decide +kernel
theorem dX4_member_25 : decode cX4_member 25 = .ok (.if_icmp .ne 6, 3) := by decide +kernel
theorem dX4_member_28 : decode cX4_member 28 = .ok (.iload 4, 2) := by decide +kernel
theorem dX4_member_30 : decode cX4_member 30 = .ok (.ireturn, 1) := by decide +kernel
theorem dX4_member_31 : decode cX4_member 31 = .ok (.iinc 3 1, 3) := by decide +kernel
theorem dX4_member_34 : decode cX4_member 34 = .ok (.iinc 4 1, 3) := by decide +kernel
theorem dX4_member_37 : decode cX4_member 37 = .ok (.goto (-32), 3) := by decide +kernel
theorem dX4_member_40 : decode cX4_member 40 = .ok (.iconst (-1), 1) := by decide +kernel
theorem dX4_member_41 : decode cX4_member 41 = .ok (.ireturn, 1) := by decide +kernel
theorem dX4_told_0 : decode cX4_told 0 = .ok (.aload_n 0, 1) := by decide +kernel
theorem dX4_told_1 : decode cX4_told 1 = .ok (.getfield 28, 3) := by decide +kernel
theorem dX4_told_4 : decode cX4_told 4 = .ok (.iconst (-1), 1) := by decide +kernel
theorem dX4_told_5 : decode cX4_told 5 = .ok (.if_icmp .ne 5, 3) := by decide +kernel
theorem dX4_told_8 : decode cX4_told 8 = .ok (.iconst (-1), 1) := by decide +kernel
theorem dX4_told_9 : decode cX4_told 9 = .ok (.ireturn, 1) := by decide +kernel
theorem dX4_told_10 : decode cX4_told 10 = .ok (.iload_n 1, 1) := by decide +kernel
theorem dX4_told_11 : decode cX4_told 11 = .ok (.ifCond .ne 8, 3) := by decide +kernel
theorem dX4_told_14 : decode cX4_told 14 = .ok (.aload_n 0, 1) := by decide +kernel
theorem dX4_told_15 : decode cX4_told 15 = .ok (.getfield 28, 3) := by decide +kernel
theorem dX4_told_18 : decode cX4_told 18 = .ok (.ireturn, 1) := by decide +kernel
theorem dX4_told_19 : decode cX4_told 19 = .ok (.iload_n 1, 1) := by decide +kernel
theorem dX4_told_20 : decode cX4_told 20 = .ok (.iconst 1, 1) := by decide +kernel
theorem dX4_told_21 : decode cX4_told 21 = .ok (.if_icmp .ne 13, 3) := by decide +kernel
theorem dX4_told_24 : decode cX4_told 24 = .ok (.aload_n 0, 1) := by decide +kernel
theorem dX4_told_25 : decode cX4_told 25 = .ok (.getfield 24, 3) := by decide +kernel
theorem dX4_told_28 : decode cX4_told 28 = .ok (.invokestatic 45, 3) := by decide +kernel
theorem dX4_told_31 : decode cX4_told 31 = .ok (.goto 13, 3) := by decide +kernel
theorem dX4_told_34 : decode cX4_told 34 = .ok (.aload_n 0, 1) := by decide +kernel
theorem dX4_told_35 : decode cX4_told 35 = .ok (.getfield 24, 3) := by decide +kernel
theorem dX4_told_38 : decode cX4_told 38 = .ok (.iload_n 1, 1) := by decide +kernel
theorem dX4_told_39 : decode cX4_told 39 = .ok (.iconst 2, 1) := by decide +kernel
theorem dX4_told_40 : decode cX4_told 40 = .ok (.isub, 1) := by decide +kernel
theorem dX4_told_41 : decode cX4_told 41 = .ok (.invokestatic 55, 3) := by decide +kernel
theorem dX4_told_44 : decode cX4_told 44 = .ok (.ireturn, 1) := by decide +kernel
theorem dX5_init_0 : decode cX5_init 0 = .ok (.aload_n 0, 1) := by decide +kernel
theorem dX5_init_1 : decode cX5_init 1 = .ok (.invokespecial 3, 3) := by decide +kernel
theorem dX5_init_4 : decode cX5_init 4 = .ok (.aload_n 0, 1) := by decide +kernel
theorem dX5_init_5 : decode cX5_init 5 = .ok (.new 9, 3) := by decide +kernel
theorem dX5_init_8 : decode cX5_init 8 = .ok (.dup, 1) := by decide +kernel
theorem dX5_init_9 : decode cX5_init 9 = .ok (.invokespecial 11, 3) := by decide +kernel
theorem dX5_init_12 : decode cX5_init 12 = .ok (.putfield 12, 3) := by decide +kernel
theorem dX5_init_15 : decode cX5_init 15 = .ok (.aload_n 0, 1) := by decide +kernel
theorem dX5_init_16 : decode cX5_init 16 = .ok (.new 18, 3) := by decide +kernel
theorem dX5_init_19 : decode cX5_init 19 = .ok (.dup, 1) := by decide +kernel
theorem dX5_init_20 : decode cX5_init 20 = .ok (.invokespecial 20, 3) := by decide +kernel
theorem dX5_init_23 : decode cX5_init 23 = .ok (.putfield 21, 3) := by decide +kernel
theorem dX5_init_26 : decode cX5_init 26 = .ok (.aload_n 0, 1) := by decide +kernel
theorem dX5_init_27 : decode cX5_init 27 = .ok (.iconst 0, 1) := by decide +kernel
theorem dX5_init_28 : decode cX5_init 28 = .ok (.putfield 25, 3) := by decide +kernel
theorem dX5_init_31 : decode cX5_init 31 = .ok (.aload_n 0, 1) := by decide +kernel
theorem dX5_init_32 : decode cX5_init 32 = .ok (.iconst (-1), 1) := by decide +kernel
theorem dX5_init_33 : decode cX5_init 33 = .ok (.putfield 29, 3) := by decide +kernel
theorem dX5_init_36 : decode cX5_init 36 = .ok (.aload_n 0, 1) := by decide +kernel
theorem dX5_init_37 : decode cX5_init 37 = .ok (.iconst (-1), 1) := by decide +kernel
theorem dX5_init_38 : decode cX5_init 38 = .ok (.putfield 32, 3) := by decide +kernel
theorem dX5_init_41 : decode cX5_init 41 = .ok (.aload_n 0, 1) := by decide +kernel
theorem dX5_init_42 : decode cX5_init 42 = .ok (.iconst (-1), 1) := by decide +kernel
theorem dX5_init_43 : decode cX5_init 43 = .ok (.putfield 35, 3) := by decide +kernel
theorem dX5_init_46 : decode cX5_init 46 = .ok (.aload_n 0, 1) := by decide +kernel
theorem dX5_init_47 : decode cX5_init 47 = .ok (.iconst 0, 1) := by decide +kernel
theorem dX5_init_48 : decode cX5_init 48 = .ok (.putfield 38, 3) := by decide +kernel
theorem dX5_init_51 : decode cX5_init 51 = .ok (.aload_n 0, 1) := by decide +kernel
theorem dX5_init_52 : decode cX5_init 52 = .ok (.iconst 0, 1) := by decide +kernel
theorem dX5_init_53 : decode cX5_init 53 = .ok (.putfield 41, 3) := by decide +kernel
theorem dX5_init_56 : decode cX5_init 56 = .ok (.aload_n 0, 1) := by decide +kernel
theorem dX5_init_57 : decode cX5_init 57 = .ok (.iconst 0, 1) := by decide +kernel
theorem dX5_init_58 : decode cX5_init 58 = .ok (.putfield 44, 3) := by decide +kernel
theorem dX5_init_61 : decode cX5_init 61 = .ok (.aload_n 0, 1) := by decide +kernel
theorem dX5_init_62 : decode cX5_init 62 = .ok (.sipush 1334, 3) := by decide +kernel
theorem dX5_init_65 : decode cX5_init 65 = .ok (.newarray .int, 2) := by decide +kernel
theorem dX5_init_67 : decode cX5_init 67 = .ok (.putfield 47, 3) := by decide +kernel
theorem dX5_init_70 : decode cX5_init 70 = .ok (.aload_n 0, 1) := by decide +kernel
theorem dX5_init_71 : decode cX5_init 71 = .ok (.sipush 1334, 3) := by decide +kernel
theorem dX5_init_74 : decode cX5_init 74 = .ok (.newarray .int, 2) := by decide +kernel
theorem dX5_init_76 : decode cX5_init 76 = .ok (.putfield 51, 3) := by decide +kernel
theorem dX5_init_79 : decode cX5_init 79 = .ok (.aload_n 0, 1) := by decide +kernel
theorem dX5_init_80 : decode cX5_init 80 = .ok (.sipush 1334, 3) := by decide +kernel
theorem dX5_init_83 : decode cX5_init 83 = .ok (.newarray .int, 2) := by decide +kernel
theorem dX5_init_85 : decode cX5_init 85 = .ok (.putfield 54, 3) := by decide +kernel
theorem dX5_init_88 : decode cX5_init 88 = .ok (.aload_n 0, 1) := by decide +kernel
theorem dX5_init_89 : decode cX5_init 89 = .ok (.iconst 0, 1) := by decide +kernel
theorem dX5_init_90 : decode cX5_init 90 = .ok (.putfield 57, 3) := by decide +kernel
theorem dX5_init_93 : decode cX5_init 93 = .ok (.aload_n 0, 1) := by decide +kernel
theorem dX5_init_94 : decode cX5_init 94 = .ok (.iconst 0, 1) := by decide +kernel
theorem dX5_init_95 : decode cX5_init 95 = .ok (.putfield 60, 3) := by decide +kernel
theorem dX5_init_98 : decode cX5_init 98 = .ok (.return_, 1) := by decide +kernel
theorem dX5_read_0 : decode cX5_read 0 = .ok (.aload_n 0, 1) := by decide +kernel
theorem dX5_read_1 : decode cX5_read 1 = .ok (.getfield 21, 3) := by decide +kernel
theorem dX5_read_4 : decode cX5_read 4 = .ok (.invokevirtual 63, 3) := by decide +kernel
theorem dX5_read_7 : decode cX5_read 7 = .ok (.aload_n 0, 1) := by decide +kernel
theorem dX5_read_8 : decode cX5_read 8 = .ok (.iconst (-1), 1) := by decide +kernel
theorem dX5_read_9 : decode cX5_read 9 = .ok (.putfield 32, 3) := by decide +kernel
theorem dX5_read_12 : decode cX5_read 12 = .ok (.aload_n 0, 1) := by decide +kernel
theorem dX5_read_13 : decode cX5_read 13 = .ok (.iconst (-1), 1) := by decide +kernel
theorem dX5_read_14 : decode cX5_read 14 = .ok (.putfield 35, 3) := by decide +kernel
theorem dX5_read_17 : decode cX5_read 17 = .ok (.aload_n 0, 1) := by decide +kernel
theorem dX5_read_18 : decode cX5_read 18 = .ok (.iconst 0, 1) := by decide +kernel
theorem dX5_read_19 : decode cX5_read 19 = .ok (.putfield 38, 3) := by decide +kernel
theorem dX5_read_22 : decode cX5_read 22 = .ok (.aload_n 0, 1) := by decide +kernel
theorem dX5_read_23 : decode cX5_read 23 = .ok (.iconst 0, 1) := by decide +kernel
theorem dX5_read_24 : decode cX5_read 24 = .ok (.putfield 57, 3) := by decide +kernel
theorem dX5_read_27 : decode cX5_read 27 = .ok (.aload_n 0, 1) := by decide +kernel
theorem dX5_read_28 : decode cX5_read 28 = .ok (.iconst 0, 1) := by decide +kernel
theorem dX5_read_29 : decode cX5_read 29 = .ok (.putfield 60, 3) := by decide +kernel
theorem dX5_read_32 : decode cX5_read 32 = .ok (.aload_n 0, 1) := by decide +kernel
theorem dX5_read_33 : decode cX5_read 33 = .ok (.getfield 12, 3) := by decide +kernel
theorem dX5_read_36 : decode cX5_read 36 = .ok (.invokevirtual 66, 3) := by decide +kernel
theorem dX5_read_39 : decode cX5_read 39 = .ok (.iconst 0, 1) := by decide +kernel
theorem dX5_read_40 : decode cX5_read 40 = .ok (.istore_n 1, 1) := by decide +kernel
theorem dX5_read_41 : decode cX5_read 41 = .ok (.iload_n 1, 1) := by decide +kernel
theorem dX5_read_42 : decode cX5_read 42 = .ok (.sipush 4001, 3) := by decide +kernel
theorem dX5_read_45 : decode cX5_read 45 = .ok (.if_icmp .ge 51, 3) := by decide +kernel
theorem dX5_read_48 : decode cX5_read 48 = .ok (.aload_n 0, 1) := by decide +kernel
theorem dX5_read_49 : decode cX5_read 49 = .ok (.invokevirtual 69, 3) := by decide +kernel
theorem dX5_read_52 : decode cX5_read 52 = .ok (.iconst 3, 1) := by decide +kernel
theorem dX5_read_53 : decode cX5_read 53 = .ok (.if_icmp .eq 43, 3) := by decide +kernel
theorem dX5_read_56 : decode cX5_read 56 = .ok (.aload_n 0, 1) := by decide +kernel
theorem dX5_read_57 : decode cX5_read 57 = .ok (.invokevirtual 73, 3) := by decide +kernel
theorem dX5_read_60 : decode cX5_read 60 = .ok (.ifCond .eq 12, 3) := by decide +kernel
theorem dX5_read_63 : decode cX5_read 63 = .ok (.aload_n 0, 1) := by decide +kernel
theorem dX5_read_64 : decode cX5_read 64 = .ok (.bipush 59, 2) := by decide +kernel
theorem dX5_read_66 : decode cX5_read 66 = .ok (.invokevirtual 77, 3) := by decide +kernel
theorem dX5_read_69 : decode cX5_read 69 = .ok (.ifCond .ne 21, 3) := by decide +kernel
theorem dX5_read_72 : decode cX5_read 72 = .ok (.aload_n 0, 1) := by decide +kernel
theorem dX5_read_73 : decode cX5_read 73 = .ok (.iconst 1, 1) := by decide +kernel
theorem dX5_read_74 : decode cX5_read 74 = .ok (.aload_n 0, 1) := by decide +kernel
theorem dX5_read_75 : decode cX5_read 75 = .ok (.getfield 12, 3) := by decide +kernel
theorem dX5_read_78 : decode cX5_read 78 = .ok (.getfield 81, 3) := by decide +kernel
theorem dX5_read_81 : decode cX5_read 81 = .ok (.aload_n 0, 1) := by decide +kernel
theorem dX5_read_82 : decode cX5_read 82 = .ok (.getfield 38, 3) := by decide +kernel
theorem dX5_read_85 : decode cX5_read 85 = .ok (.iaload, 1) := by decide +kernel
theorem dX5_read_86 : decode cX5_read 86 = .ok (.invokevirtual 84, 3) := by decide +kernel
theorem dX5_read_89 : decode cX5_read 89 = .ok (.ireturn, 1) := by decide +kernel
theorem dX5_read_90 : decode cX5_read 90 = .ok (.iinc 1 1, 3) := by decide +kernel
theorem dX5_read_93 : decode cX5_read 93 = .ok (.goto (-52), 3) := by decide +kernel
theorem dX5_read_96 : decode cX5_read 96 = .ok (.aload_n 0, 1) := by decide +kernel
theorem dX5_read_97 : decode cX5_read 97 = .ok (.getfield 32, 3) := by decide +kernel
theorem dX5_read_100 : decode cX5_read 100 = .ok (.iconst (-1), 1) := by decide +kernel
theorem dX5_read_101 : decode cX5_read 101 = .ok (.if_icmp .eq 13, 3) := by decide +kernel
theorem dX5_read_104 : decode cX5_read 104 = .ok (.aload_n 0, 1) := by decide +kernel
theorem dX5_read_105 : decode cX5_read 105 = .ok (.iconst 2, 1) := by decide +kernel
theorem dX5_read_106 : decode cX5_read 106 = .ok (.aload_n 0, 1) := by decide +kernel
theorem dX5_read_107 : decode cX5_read 107 = .ok (.getfield 32, 3) := by decide +kernel
theorem dX5_read_110 : decode cX5_read 110 = .ok (.invokevirtual 84, 3) := by decide +kernel
theorem dX5_read_113 : decode cX5_read 113 = .ok (.ireturn, 1) := by decide +kernel
theorem dX5_read_114 : decode cX5_read 114 = .ok (.aload_n 0, 1) := by decide +kernel
theorem dX5_read_115 : decode cX5_read 115 = .ok (.invokevirtual 88, 3) := by decide +kernel
theorem dX5_read_118 : decode cX5_read 118 = .ok (.istore_n 1, 1) := by decide +kernel
theorem dX5_read_119 : decode cX5_read 119 = .ok (.iload_n 1, 1) := by decide +kernel
theorem dX5_read_120 : decode cX5_read 120 = .ok (.iconst (-1), 1) := by decide +kernel
theorem dX5_read_121 : decode cX5_read 121 = .ok (.if_icmp .eq 10, 3) := by decide +kernel
theorem dX5_read_124 : decode cX5_read 124 = .ok (.aload_n 0, 1) := by decide +kernel
theorem dX5_read_125 : decode cX5_read 125 = .ok (.iconst 3, 1) := by decide +kernel
theorem dX5_read_126 : decode cX5_read 126 = .ok (.iload_n 1, 1) := by decide +kernel
theorem dX5_read_127 : decode cX5_read 127 = .ok (.invokevirtual 84, 3) := by decide +kernel
theorem dX5_read_130 : decode cX5_read 130 = .ok (.ireturn, 1) := by decide +kernel
theorem dX5_read_131 : decode cX5_read 131 = .ok (.aload_n 0, 1) := by decide +kernel
theorem dX5_read_132 : decode cX5_read 132 = .ok (.invokevirtual 91, 3) := by decide +kernel
theorem dX5_read_135 : decode cX5_read 135 = .ok (.aload_n 0, 1) := by decide +kernel
theorem dX5_read_136 : decode cX5_read 136 = .ok (.getfield 21, 3) := by decide +kernel
theorem dX5_read_139 : decode cX5_read 139 = .ok (.invokevirtual 94, 3) := by decide +kernel
theorem dX5_read_142 : decode cX5_read 142 = .ok (.aload_n 0, 1) := by decide +kernel
theorem dX5_read_143 : decode cX5_read 143 = .ok (.iconst 0, 1) := by decide +kernel
theorem dX5_read_144 : decode cX5_read 144 = .ok (.putfield 25, 3) := by decide +kernel
theorem dX5_read_147 : decode cX5_read 147 = .ok (.aload_n 0, 1) := by decide +kernel
theorem dX5_read_148 : decode cX5_read 148 = .ok (.iconst (-1), 1) := by decide +kernel
theorem dX5_read_149 : decode cX5_read 149 = .ok (.putfield 29, 3) := by decide +kernel
theorem dX5_read_152 : decode cX5_read 152 = .ok (.iconst 1, 1) := by decide +kernel
theorem dX5_read_153 : decode cX5_read 153 = .ok (.ireturn, 1) := by decide +kernel
theorem dX5_blame_0 : decode cX5_blame 0 = .ok (.aload_n 0, 1) := by decide +kernel
theorem dX5_blame_1 : decode cX5_blame 1 = .ok (.iload_n 1, 1) := by decide +kernel
theorem dX5_blame_2 : decode cX5_blame 2 = .ok (.putfield 25, 3) := by decide +kernel
theorem dX5_blame_5 : decode cX5_blame 5 = .ok (.aload_n 0, 1) := by decide +kernel
theorem dX5_blame_6 : decode cX5_blame 6 = .ok (.iload_n 2, 1) := by decide +kernel
theorem dX5_blame_7 : decode cX5_blame 7 = .ok (.putfield 29, 3) := by decide +kernel
theorem dX5_blame_10 : decode cX5_blame 10 = .ok (.iconst 0, 1) := by decide +kernel
theorem dX5_blame_11 : decode cX5_blame 11 = .ok (.ireturn, 1) := by decide +kernel
theorem dX5_readStatement_0 : decode cX5_readStatement 0 = .ok (.aload_n 0, 1) := by decide +kernel
theorem dX5_readStatement_1 : decode cX5_readStatement 1 = .ok (.bipush 15, 2) := by decide +kernel
theorem dX5_readStatement_3 : decode cX5_readStatement 3 = .ok (.invokevirtual 77, 3) := by decide +kernel
theorem dX5_readStatement_6 : decode cX5_readStatement 6 = .ok (.ifCond .eq 8, 3) := by decide +kernel
theorem dX5_readStatement_9 : decode cX5_readStatement 9 = .ok (.aload_n 0, 1) := by decide +kernel
theorem dX5_readStatement_10 : decode cX5_readStatement 10 = .ok (.invokevirtual 97, 3) := by decide +kernel
theorem dX5_readStatement_13 : decode cX5_readStatement 13 = .ok (.ireturn, 1) := by decide +kernel
theorem dX5_readStatement_14 : decode cX5_readStatement 14 = .ok (.aload_n 0, 1) := by decide +kernel
theorem dX5_readStatement_15 : decode cX5_readStatement 15 = .ok (.bipush 10, 2) := by decide +kernel
theorem dX5_readStatement_17 : decode cX5_readStatement 17 = .ok (.invokevirtual 77, 3) := by decide +kernel
theorem dX5_readStatement_20 : decode cX5_readStatement 20 = .ok (.ifCond .eq 8, 3) := by decide +kernel
theorem dX5_readStatement_23 : decode cX5_readStatement 23 = .ok (.aload_n 0, 1) := by decide +kernel
theorem dX5_readStatement_24 : decode cX5_readStatement 24 = .ok (.invokevirtual 100, 3) := by decide +kernel
theorem dX5_readStatement_27 : decode cX5_readStatement 27 = .ok (.ireturn, 1) := by decide +kernel
theorem dX5_readStatement_28 : decode cX5_readStatement 28 = .ok (.aload_n 0, 1) := by decide +kernel
theorem dX5_readStatement_29 : decode cX5_readStatement 29 = .ok (.bipush 11, 2) := by decide +kernel
theorem dX5_readStatement_31 : decode cX5_readStatement 31 = .ok (.invokevirtual 77, 3) := by decide +kernel
theorem dX5_readStatement_34 : decode cX5_readStatement 34 = .ok (.ifCond .eq 9, 3) := by decide +kernel
theorem dX5_readStatement_37 : decode cX5_readStatement 37 = .ok (.aload_n 0, 1) := by decide +kernel
theorem dX5_readStatement_38 : decode cX5_readStatement 38 = .ok (.iconst 1, 1) := by decide +kernel
theorem dX5_readStatement_39 : decode cX5_readStatement 39 = .ok (.invokevirtual 103, 3) := by decide +kernel
theorem dX5_readStatement_42 : decode cX5_readStatement 42 = .ok (.ireturn, 1) := by decide +kernel
theorem dX5_readStatement_43 : decode cX5_readStatement 43 = .ok (.aload_n 0, 1) := by decide +kernel
theorem dX5_readStatement_44 : decode cX5_readStatement 44 = .ok (.bipush 12, 2) := by decide +kernel
theorem dX5_readStatement_46 : decode cX5_readStatement 46 = .ok (.invokevirtual 77, 3) := by decide +kernel
theorem dX5_readStatement_49 : decode cX5_readStatement 49 = .ok (.ifCond .eq 9, 3) := by decide +kernel
theorem dX5_readStatement_52 : decode cX5_readStatement 52 = .ok (.aload_n 0, 1) := by decide +kernel
theorem dX5_readStatement_53 : decode cX5_readStatement 53 = .ok (.iconst 2, 1) := by decide +kernel
theorem dX5_readStatement_54 : decode cX5_readStatement 54 = .ok (.invokevirtual 103, 3) := by decide +kernel
theorem dX5_readStatement_57 : decode cX5_readStatement 57 = .ok (.ireturn, 1) := by decide +kernel
theorem dX5_readStatement_58 : decode cX5_readStatement 58 = .ok (.aload_n 0, 1) := by decide +kernel
theorem dX5_readStatement_59 : decode cX5_readStatement 59 = .ok (.bipush 14, 2) := by decide +kernel
theorem dX5_readStatement_61 : decode cX5_readStatement 61 = .ok (.invokevirtual 77, 3) := by decide +kernel
theorem dX5_readStatement_64 : decode cX5_readStatement 64 = .ok (.ifCond .eq 9, 3) := by decide +kernel
theorem dX5_readStatement_67 : decode cX5_readStatement 67 = .ok (.aload_n 0, 1) := by decide +kernel
theorem dX5_readStatement_68 : decode cX5_readStatement 68 = .ok (.iconst 4, 1) := by decide +kernel
theorem dX5_readStatement_69 : decode cX5_readStatement 69 = .ok (.invokevirtual 103, 3) := by decide +kernel
theorem dX5_readStatement_72 : decode cX5_readStatement 72 = .ok (.ireturn, 1) := by decide +kernel
theorem dX5_readStatement_73 : decode cX5_readStatement 73 = .ok (.aload_n 0, 1) := by decide +kernel
theorem dX5_readStatement_74 : decode cX5_readStatement 74 = .ok (.bipush 13, 2) := by decide +kernel
theorem dX5_readStatement_76 : decode cX5_readStatement 76 = .ok (.invokevirtual 77, 3) := by decide +kernel
theorem dX5_readStatement_79 : decode cX5_readStatement 79 = .ok (.ifCond .eq 14, 3) := by decide +kernel
theorem dX5_readStatement_82 : decode cX5_readStatement 82 = .ok (.aload_n 0, 1) := by decide +kernel
theorem dX5_readStatement_83 : decode cX5_readStatement 83 = .ok (.invokevirtual 106, 3) := by decide +kernel
theorem dX5_readStatement_86 : decode cX5_readStatement 86 = .ok (.ifCond .eq 7, 3) := by decide +kernel
theorem dX5_readStatement_89 : decode cX5_readStatement 89 = .ok (.iconst 1, 1) := by decide +kernel
theorem dX5_readStatement_90 : decode cX5_readStatement 90 = .ok (.goto 4, 3) := by decide +kernel
theorem dX5_readStatement_93 : decode cX5_readStatement 93 = .ok (.iconst 0, 1) := by decide +kernel
theorem dX5_readStatement_94 : decode cX5_readStatement 94 = .ok (.ireturn, 1) := by decide +kernel
theorem dX5_readPlain_0 : decode cX5_readPlain 0 = .ok (.aload_n 0, 1) := by decide +kernel
theorem dX5_readPlain_1 : decode cX5_readPlain 1 = .ok (.invokevirtual 109, 3) := by decide +kernel
theorem dX5_readPlain_4 : decode cX5_readPlain 4 = .ok (.ifCond .ne 5, 3) := by decide +kernel
theorem dX5_readPlain_7 : decode cX5_readPlain 7 = .ok (.iconst 0, 1) := by decide +kernel
theorem dX5_readPlain_8 : decode cX5_readPlain 8 = .ok (.ireturn, 1) := by decide +kernel
theorem dX5_readPlain_9 : decode cX5_readPlain 9 = .ok (.aload_n 0, 1) := by decide +kernel
theorem dX5_readPlain_10 : decode cX5_readPlain 10 = .ok (.iload_n 1, 1) := by decide +kernel
theorem dX5_readPlain_11 : decode cX5_readPlain 11 = .ok (.invokevirtual 112, 3) := by decide +kernel
theorem dX5_readPlain_14 : decode cX5_readPlain 14 = .ok (.pop, 1) := by decide +kernel
theorem dX5_readPlain_15 : decode cX5_readPlain 15 = .ok (.iconst 1, 1) := by decide +kernel
theorem dX5_readPlain_16 : decode cX5_readPlain 16 = .ok (.ireturn, 1) := by decide +kernel
theorem dX5_readRelay_0 : decode cX5_readRelay 0 = .ok (.aload_n 0, 1) := by decide +kernel
theorem dX5_readRelay_1 : decode cX5_readRelay 1 = .ok (.invokevirtual 109, 3) := by decide +kernel
theorem dX5_readRelay_4 : decode cX5_readRelay 4 = .ok (.ifCond .ne 5, 3) := by decide +kernel
theorem dX5_readRelay_7 : decode cX5_readRelay 7 = .ok (.iconst 0, 1) := by decide +kernel
theorem dX5_readRelay_8 : decode cX5_readRelay 8 = .ok (.ireturn, 1) := by decide +kernel
theorem dX5_readRelay_9 : decode cX5_readRelay 9 = .ok (.aload_n 0, 1) := by decide +kernel
theorem dX5_readRelay_10 : decode cX5_readRelay 10 = .ok (.iconst 0, 1) := by decide +kernel
theorem dX5_readRelay_11 : decode cX5_readRelay 11 = .ok (.invokevirtual 112, 3) := by decide +kernel
theorem dX5_readRelay_14 : decode cX5_readRelay 14 = .ok (.istore_n 1, 1) := by decide +kernel
theorem dX5_readRelay_15 : decode cX5_readRelay 15 = .ok (.aload_n 0, 1) := by decide +kernel
theorem dX5_readRelay_16 : decode cX5_readRelay 16 = .ok (.iconst 1, 1) := by decide +kernel
theorem dX5_readRelay_17 : decode cX5_readRelay 17 = .ok (.bipush 20, 2) := by decide +kernel
theorem dX5_readRelay_19 : decode cX5_readRelay 19 = .ok (.invokevirtual 116, 3) := by decide +kernel
theorem dX5_readRelay_22 : decode cX5_readRelay 22 = .ok (.ifCond .ne 5, 3) := by decide +kernel
