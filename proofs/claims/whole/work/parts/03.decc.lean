theorem dX0_init_0 : decode cX0_init 0 = .ok (.aload_n 0, 1) := by decide +kernel
theorem dX0_init_1 : decode cX0_init 1 = .ok (.invokespecial 3, 3) := by decide +kernel
theorem dX0_init_4 : decode cX0_init 4 = .ok (.aload_n 0, 1) := by decide +kernel
theorem dX0_init_5 : decode cX0_init 5 = .ok (.new 9, 3) := by decide +kernel
theorem dX0_init_8 : decode cX0_init 8 = .ok (.dup, 1) := by decide +kernel
theorem dX0_init_9 : decode cX0_init 9 = .ok (.invokespecial 11, 3) := by decide +kernel
theorem dX0_init_12 : decode cX0_init 12 = .ok (.putfield 12, 3) := by decide +kernel
theorem dX0_init_15 : decode cX0_init 15 = .ok (.aload_n 0, 1) := by decide +kernel
theorem dX0_init_16 : decode cX0_init 16 = .ok (.iconst 4, 1) := by decide +kernel
theorem dX0_init_17 : decode cX0_init 17 = .ok (.newarray .long, 2) := by decide +kernel
theorem dX0_init_19 : decode cX0_init 19 = .ok (.putfield 18, 3) := by decide +kernel
theorem dX0_init_22 : decode cX0_init 22 = .ok (.return_, 1) := by decide +kernel
theorem dX0_readSheet_0 : decode cX0_readSheet 0 = .ok (.aload_n 0, 1) := by decide +kernel
theorem dX0_readSheet_1 : decode cX0_readSheet 1 = .ok (.getfield 12, 3) := by decide +kernel
theorem dX0_readSheet_4 : decode cX0_readSheet 4 = .ok (.invokevirtual 22, 3) := by decide +kernel
theorem dX0_readSheet_7 : decode cX0_readSheet 7 = .ok (.aload_n 1, 1) := by decide +kernel
theorem dX0_readSheet_8 : decode cX0_readSheet 8 = .ok (.invokevirtual 25, 3) := by decide +kernel
theorem dX0_readSheet_11 : decode cX0_readSheet 11 = .ok (.aload_n 0, 1) := by decide +kernel
theorem dX0_readSheet_12 : decode cX0_readSheet 12 = .ok (.aload_n 1, 1) := by decide +kernel
theorem dX0_readSheet_13 : decode cX0_readSheet 13 = .ok (.invokevirtual 30, 3) := by decide +kernel
theorem dX0_readSheet_16 : decode cX0_readSheet 16 = .ok (.ifCond .eq 31, 3) := by decide +kernel
theorem dX0_readSheet_19 : decode cX0_readSheet 19 = .ok (.aload_n 0, 1) := by decide +kernel
theorem dX0_readSheet_20 : decode cX0_readSheet 20 = .ok (.aload_n 1, 1) := by decide +kernel
theorem dX0_readSheet_21 : decode cX0_readSheet 21 = .ok (.invokevirtual 34, 3) := by decide +kernel
theorem dX0_readSheet_24 : decode cX0_readSheet 24 = .ok (.ifCond .eq 23, 3) := by decide +kernel
theorem dX0_readSheet_27 : decode cX0_readSheet 27 = .ok (.aload_n 0, 1) := by decide +kernel
theorem dX0_readSheet_28 : decode cX0_readSheet 28 = .ok (.aload_n 1, 1) := by decide +kernel
theorem dX0_readSheet_29 : decode cX0_readSheet 29 = .ok (.invokevirtual 37, 3) := by decide +kernel
theorem dX0_readSheet_32 : decode cX0_readSheet 32 = .ok (.ifCond .eq 15, 3) := by decide +kernel
theorem dX0_readSheet_35 : decode cX0_readSheet 35 = .ok (.aload_n 0, 1) := by decide +kernel
theorem dX0_readSheet_36 : decode cX0_readSheet 36 = .ok (.aload_n 1, 1) := by decide +kernel
theorem dX0_readSheet_37 : decode cX0_readSheet 37 = .ok (.invokevirtual 40, 3) := by decide +kernel
theorem dX0_readSheet_40 : decode cX0_readSheet 40 = .ok (.ifCond .eq 7, 3) := by decide +kernel
theorem dX0_readSheet_43 : decode cX0_readSheet 43 = .ok (.iconst 1, 1) := by decide +kernel
theorem dX0_readSheet_44 : decode cX0_readSheet 44 = .ok (.goto 4, 3) := by decide +kernel
theorem dX0_readSheet_47 : decode cX0_readSheet 47 = .ok (.iconst 0, 1) := by decide +kernel
theorem dX0_readSheet_48 : decode cX0_readSheet 48 = .ok (.ireturn, 1) := by decide +kernel
theorem dX0_endPart_0 : decode cX0_endPart 0 = .ok (.aload_n 0, 1) := by decide +kernel
theorem dX0_endPart_1 : decode cX0_endPart 1 = .ok (.getfield 12, 3) := by decide +kernel
theorem dX0_endPart_4 : decode cX0_endPart 4 = .ok (.invokevirtual 43, 3) := by decide +kernel
theorem dX0_endPart_7 : decode cX0_endPart 7 = .ok (.ifCond .ne 5, 3) := by decide +kernel
theorem dX0_endPart_10 : decode cX0_endPart 10 = .ok (.iconst 0, 1) := by decide +kernel
theorem dX0_endPart_11 : decode cX0_endPart 11 = .ok (.ireturn, 1) := by decide +kernel
theorem dX0_endPart_12 : decode cX0_endPart 12 = .ok (.aload_n 0, 1) := by decide +kernel
theorem dX0_endPart_13 : decode cX0_endPart 13 = .ok (.getfield 12, 3) := by decide +kernel
theorem dX0_endPart_16 : decode cX0_endPart 16 = .ok (.invokevirtual 47, 3) := by decide +kernel
theorem dX0_endPart_19 : decode cX0_endPart 19 = .ok (.iconst 1, 1) := by decide +kernel
theorem dX0_endPart_20 : decode cX0_endPart 20 = .ok (.ireturn, 1) := by decide +kernel
theorem dX0_readSize_0 : decode cX0_readSize 0 = .ok (.aload_n 0, 1) := by decide +kernel
theorem dX0_readSize_1 : decode cX0_readSize 1 = .ok (.getfield 12, 3) := by decide +kernel
theorem dX0_readSize_4 : decode cX0_readSize 4 = .ok (.ldc 50, 2) := by decide +kernel
theorem dX0_readSize_6 : decode cX0_readSize 6 = .ok (.invokevirtual 52, 3) := by decide +kernel
theorem dX0_readSize_9 : decode cX0_readSize 9 = .ok (.ifCond .eq 16, 3) := by decide +kernel
theorem dX0_readSize_12 : decode cX0_readSize 12 = .ok (.aload_n 0, 1) := by decide +kernel
theorem dX0_readSize_13 : decode cX0_readSize 13 = .ok (.getfield 12, 3) := by decide +kernel
theorem dX0_readSize_16 : decode cX0_readSize 16 = .ok (.iconst 4, 1) := by decide +kernel
theorem dX0_readSize_17 : decode cX0_readSize 17 = .ok (.bipush 30, 2) := by decide +kernel
theorem dX0_readSize_19 : decode cX0_readSize 19 = .ok (.invokevirtual 56, 3) := by decide +kernel
theorem dX0_readSize_22 : decode cX0_readSize 22 = .ok (.ifCond .ne 5, 3) := by decide +kernel
theorem dX0_readSize_25 : decode cX0_readSize 25 = .ok (.iconst 0, 1) := by decide +kernel
theorem dX0_readSize_26 : decode cX0_readSize 26 = .ok (.ireturn, 1) := by decide +kernel
theorem dX0_readSize_27 : decode cX0_readSize 27 = .ok (.aload_n 1, 1) := by decide +kernel
theorem dX0_readSize_28 : decode cX0_readSize 28 = .ok (.aload_n 0, 1) := by decide +kernel
theorem dX0_readSize_29 : decode cX0_readSize 29 = .ok (.getfield 12, 3) := by decide +kernel
theorem dX0_readSize_32 : decode cX0_readSize 32 = .ok (.getfield 60, 3) := by decide +kernel
theorem dX0_readSize_35 : decode cX0_readSize 35 = .ok (.putfield 64, 3) := by decide +kernel
theorem dX0_readSize_38 : decode cX0_readSize 38 = .ok (.aload_n 0, 1) := by decide +kernel
theorem dX0_readSize_39 : decode cX0_readSize 39 = .ok (.getfield 12, 3) := by decide +kernel
theorem dX0_readSize_42 : decode cX0_readSize 42 = .ok (.iconst 4, 1) := by decide +kernel
theorem dX0_readSize_43 : decode cX0_readSize 43 = .ok (.bipush 30, 2) := by decide +kernel
theorem dX0_readSize_45 : decode cX0_readSize 45 = .ok (.invokevirtual 56, 3) := by decide +kernel
theorem dX0_readSize_48 : decode cX0_readSize 48 = .ok (.ifCond .ne 5, 3) := by decide +kernel
theorem dX0_readSize_51 : decode cX0_readSize 51 = .ok (.iconst 0, 1) := by decide +kernel
theorem dX0_readSize_52 : decode cX0_readSize 52 = .ok (.ireturn, 1) := by decide +kernel
theorem dX0_readSize_53 : decode cX0_readSize 53 = .ok (.aload_n 1, 1) := by decide +kernel
theorem dX0_readSize_54 : decode cX0_readSize 54 = .ok (.aload_n 0, 1) := by decide +kernel
theorem dX0_readSize_55 : decode cX0_readSize 55 = .ok (.getfield 12, 3) := by decide +kernel
theorem dX0_readSize_58 : decode cX0_readSize 58 = .ok (.getfield 60, 3) := by decide +kernel
theorem dX0_readSize_61 : decode cX0_readSize 61 = .ok (.putfield 67, 3) := by decide +kernel
theorem dX0_readSize_64 : decode cX0_readSize 64 = .ok (.aload_n 0, 1) := by decide +kernel
theorem dX0_readSize_65 : decode cX0_readSize 65 = .ok (.invokevirtual 70, 3) := by decide +kernel
theorem dX0_readSize_68 : decode cX0_readSize 68 = .ok (.ireturn, 1) := by decide +kernel
theorem dX0_readWind_0 : decode cX0_readWind 0 = .ok (.aload_n 0, 1) := by decide +kernel
theorem dX0_readWind_1 : decode cX0_readWind 1 = .ok (.getfield 12, 3) := by decide +kernel
theorem dX0_readWind_4 : decode cX0_readWind 4 = .ok (.ldc 73, 2) := by decide +kernel
theorem dX0_readWind_6 : decode cX0_readWind 6 = .ok (.invokevirtual 75, 3) := by decide +kernel
theorem dX0_readWind_9 : decode cX0_readWind 9 = .ok (.ifCond .ne 5, 3) := by decide +kernel
theorem dX0_readWind_12 : decode cX0_readWind 12 = .ok (.iconst 1, 1) := by decide +kernel
theorem dX0_readWind_13 : decode cX0_readWind 13 = .ok (.ireturn, 1) := by decide +kernel
theorem dX0_readWind_14 : decode cX0_readWind 14 = .ok (.aload_n 0, 1) := by decide +kernel
theorem dX0_readWind_15 : decode cX0_readWind 15 = .ok (.getfield 12, 3) := by decide +kernel
theorem dX0_readWind_18 : decode cX0_readWind 18 = .ok (.iconst 0, 1) := by decide +kernel
theorem dX0_readWind_19 : decode cX0_readWind 19 = .ok (.bipush 7, 2) := by decide +kernel
theorem dX0_readWind_21 : decode cX0_readWind 21 = .ok (.invokevirtual 56, 3) := by decide +kernel
theorem dX0_readWind_24 : decode cX0_readWind 24 = .ok (.ifCond .ne 5, 3) := by decide +kernel
theorem dX0_readWind_27 : decode cX0_readWind 27 = .ok (.iconst 0, 1) := by decide +kernel
theorem dX0_readWind_28 : decode cX0_readWind 28 = .ok (.ireturn, 1) := by decide +kernel
theorem dX0_readWind_29 : decode cX0_readWind 29 = .ok (.aload_n 1, 1) := by decide +kernel
theorem dX0_readWind_30 : decode cX0_readWind 30 = .ok (.aload_n 0, 1) := by decide +kernel
theorem dX0_readWind_31 : decode cX0_readWind 31 = .ok (.getfield 12, 3) := by decide +kernel
theorem dX0_readWind_34 : decode cX0_readWind 34 = .ok (.getfield 60, 3) := by decide +kernel
theorem dX0_readWind_37 : decode cX0_readWind 37 = .ok (.putfield 78, 3) := by decide +kernel
theorem dX0_readWind_40 : decode cX0_readWind 40 = .ok (.aload_n 0, 1) := by decide +kernel
theorem dX0_readWind_41 : decode cX0_readWind 41 = .ok (.getfield 12, 3) := by decide +kernel
theorem dX0_readWind_44 : decode cX0_readWind 44 = .ok (.iconst 0, 1) := by decide +kernel
theorem dX0_readWind_45 : decode cX0_readWind 45 = .ok (.bipush 9, 2) := by decide +kernel
theorem dX0_readWind_47 : decode cX0_readWind 47 = .ok (.invokevirtual 56, 3) := by decide +kernel
theorem dX0_readWind_50 : decode cX0_readWind 50 = .ok (.ifCond .ne 5, 3) := by decide +kernel
theorem dX0_readWind_53 : decode cX0_readWind 53 = .ok (.iconst 0, 1) := by decide +kernel
theorem dX0_readWind_54 : decode cX0_readWind 54 = .ok (.ireturn, 1) := by decide +kernel
theorem dX0_readWind_55 : decode cX0_readWind 55 = .ok (.aload_n 1, 1) := by decide +kernel
theorem dX0_readWind_56 : decode cX0_readWind 56 = .ok (.aload_n 0, 1) := by decide +kernel
theorem dX0_readWind_57 : decode cX0_readWind 57 = .ok (.getfield 12, 3) := by decide +kernel
theorem dX0_readWind_60 : decode cX0_readWind 60 = .ok (.getfield 60, 3) := by decide +kernel
theorem dX0_readWind_63 : decode cX0_readWind 63 = .ok (.putfield 81, 3) := by decide +kernel
theorem dX0_readWind_66 : decode cX0_readWind 66 = .ok (.aload_n 0, 1) := by decide +kernel
theorem dX0_readWind_67 : decode cX0_readWind 67 = .ok (.invokevirtual 70, 3) := by decide +kernel
theorem dX0_readWind_70 : decode cX0_readWind 70 = .ok (.ireturn, 1) := by decide +kernel
theorem dX0_readShifts_0 : decode cX0_readShifts 0 = .ok (.iconst 0, 1) := by decide +kernel
theorem dX0_readShifts_1 : decode cX0_readShifts 1 = .ok (.istore_n 2, 1) := by decide +kernel
theorem dX0_readShifts_2 : decode cX0_readShifts 2 = .ok (.iload_n 2, 1) := by decide +kernel
theorem dX0_readShifts_3 : decode cX0_readShifts 3 = .ok (.bipush 8, 2) := by decide +kernel
theorem dX0_readShifts_5 : decode cX0_readShifts 5 = .ok (.if_icmp .gt 50, 3) := by decide +kernel
theorem dX0_readShifts_8 : decode cX0_readShifts 8 = .ok (.aload_n 0, 1) := by decide +kernel
theorem dX0_readShifts_9 : decode cX0_readShifts 9 = .ok (.getfield 12, 3) := by decide +kernel
theorem dX0_readShifts_12 : decode cX0_readShifts 12 = .ok (.ldc 84, 2) := by decide +kernel
theorem dX0_readShifts_14 : decode cX0_readShifts 14 = .ok (.invokevirtual 75, 3) := by decide +kernel
theorem dX0_readShifts_17 : decode cX0_readShifts 17 = .ok (.ifCond .eq 38, 3) := by decide +kernel
theorem dX0_readShifts_20 : decode cX0_readShifts 20 = .ok (.aload_n 1, 1) := by decide +kernel
theorem dX0_readShifts_21 : decode cX0_readShifts 21 = .ok (.getfield 86, 3) := by decide +kernel
theorem dX0_readShifts_24 : decode cX0_readShifts 24 = .ok (.bipush 8, 2) := by decide +kernel
theorem dX0_readShifts_26 : decode cX0_readShifts 26 = .ok (.if_icmp .lt 13, 3) := by decide +kernel
theorem dX0_readShifts_29 : decode cX0_readShifts 29 = .ok (.aload_n 0, 1) := by decide +kernel
theorem dX0_readShifts_30 : decode cX0_readShifts 30 = .ok (.getfield 12, 3) := by decide +kernel
theorem dX0_readShifts_33 : decode cX0_readShifts 33 = .ok (.bipush (-6), 2) := by decide +kernel
theorem dX0_readShifts_35 : decode cX0_readShifts 35 = .ok (.invokevirtual 89, 3) := by decide +kernel
theorem dX0_readShifts_38 : decode cX0_readShifts 38 = .ok (.ireturn, 1) := by decide +kernel
theorem dX0_readShifts_39 : decode cX0_readShifts 39 = .ok (.aload_n 0, 1) := by decide +kernel
theorem dX0_readShifts_40 : decode cX0_readShifts 40 = .ok (.aload_n 1, 1) := by decide +kernel
theorem dX0_readShifts_41 : decode cX0_readShifts 41 = .ok (.invokevirtual 93, 3) := by decide +kernel
theorem dX0_readShifts_44 : decode cX0_readShifts 44 = .ok (.ifCond .ne 5, 3) := by decide +kernel
theorem dX0_readShifts_47 : decode cX0_readShifts 47 = .ok (.iconst 0, 1) := by decide +kernel
theorem dX0_readShifts_48 : decode cX0_readShifts 48 = .ok (.ireturn, 1) := by decide +kernel
theorem dX0_readShifts_49 : decode cX0_readShifts 49 = .ok (.iinc 2 1, 3) := by decide +kernel
theorem dX0_readShifts_52 : decode cX0_readShifts 52 = .ok (.goto (-50), 3) := by decide +kernel
theorem dX0_readShifts_55 : decode cX0_readShifts 55 = .ok (.iconst 1, 1) := by decide +kernel
theorem dX0_readShifts_56 : decode cX0_readShifts 56 = .ok (.ireturn, 1) := by decide +kernel
theorem dX0_readShift_0 : decode cX0_readShift 0 = .ok (.aload_n 0, 1) := by decide +kernel
theorem dX0_readShift_1 : decode cX0_readShift 1 = .ok (.getfield 12, 3) := by decide +kernel
theorem dX0_readShift_4 : decode cX0_readShift 4 = .ok (.iconst 0, 1) := by decide +kernel
theorem dX0_readShift_5 : decode cX0_readShift 5 = .ok (.sipush 999, 3) := by decide +kernel
theorem dX0_readShift_8 : decode cX0_readShift 8 = .ok (.invokevirtual 56, 3) := by decide +kernel
theorem dX0_readShift_11 : decode cX0_readShift 11 = .ok (.ifCond .ne 5, 3) := by decide +kernel
theorem dX0_readShift_14 : decode cX0_readShift 14 = .ok (.iconst 0, 1) := by decide +kernel
theorem dX0_readShift_15 : decode cX0_readShift 15 = .ok (.ireturn, 1) := by decide +kernel
theorem dX0_readShift_16 : decode cX0_readShift 16 = .ok (.aload_n 0, 1) := by decide +kernel
theorem dX0_readShift_17 : decode cX0_readShift 17 = .ok (.getfield 12, 3) := by decide +kernel
theorem dX0_readShift_20 : decode cX0_readShift 20 = .ok (.getfield 60, 3) := by decide +kernel
theorem dX0_readShift_23 : decode cX0_readShift 23 = .ok (.istore_n 2, 1) := by decide +kernel
theorem dX0_readShift_24 : decode cX0_readShift 24 = .ok (.aload_n 1, 1) := by decide +kernel
theorem dX0_readShift_25 : decode cX0_readShift 25 = .ok (.iload_n 2, 1) := by decide +kernel
theorem dX0_readShift_26 : decode cX0_readShift 26 = .ok (.invokevirtual 96, 3) := by decide +kernel
theorem dX0_readShift_29 : decode cX0_readShift 29 = .ok (.iconst (-1), 1) := by decide +kernel
theorem dX0_readShift_30 : decode cX0_readShift 30 = .ok (.if_icmp .eq 13, 3) := by decide +kernel
theorem dX0_readShift_33 : decode cX0_readShift 33 = .ok (.aload_n 0, 1) := by decide +kernel
theorem dX0_readShift_34 : decode cX0_readShift 34 = .ok (.getfield 12, 3) := by decide +kernel
theorem dX0_readShift_37 : decode cX0_readShift 37 = .ok (.bipush (-4), 2) := by decide +kernel
theorem dX0_readShift_39 : decode cX0_readShift 39 = .ok (.invokevirtual 89, 3) := by decide +kernel
theorem dX0_readShift_42 : decode cX0_readShift 42 = .ok (.ireturn, 1) := by decide +kernel
theorem dX0_readShift_43 : decode cX0_readShift 43 = .ok (.aload_n 0, 1) := by decide +kernel
theorem dX0_readShift_44 : decode cX0_readShift 44 = .ok (.getfield 12, 3) := by decide +kernel
theorem dX0_readShift_47 : decode cX0_readShift 47 = .ok (.iconst 0, 1) := by decide +kernel
theorem dX0_readShift_48 : decode cX0_readShift 48 = .ok (.bipush 7, 2) := by decide +kernel
theorem dX0_readShift_50 : decode cX0_readShift 50 = .ok (.invokevirtual 56, 3) := by decide +kernel
theorem dX0_readShift_53 : decode cX0_readShift 53 = .ok (.ifCond .ne 5, 3) := by decide +kernel
theorem dX0_readShift_56 : decode cX0_readShift 56 = .ok (.iconst 0, 1) := by decide +kernel
theorem dX0_readShift_57 : decode cX0_readShift 57 = .ok (.ireturn, 1) := by decide +kernel
theorem dX0_readShift_58 : decode cX0_readShift 58 = .ok (.aload_n 0, 1) := by decide +kernel
theorem dX0_readShift_59 : decode cX0_readShift 59 = .ok (.getfield 12, 3) := by decide +kernel
theorem dX0_readShift_62 : decode cX0_readShift 62 = .ok (.getfield 60, 3) := by decide +kernel
theorem dX0_readShift_65 : decode cX0_readShift 65 = .ok (.istore_n 3, 1) := by decide +kernel
theorem dX0_readShift_66 : decode cX0_readShift 66 = .ok (.aload_n 0, 1) := by decide +kernel
theorem dX0_readShift_67 : decode cX0_readShift 67 = .ok (.getfield 12, 3) := by decide +kernel
theorem dX0_readShift_70 : decode cX0_readShift 70 = .ok (.iconst 0, 1) := by decide +kernel
theorem dX0_readShift_71 : decode cX0_readShift 71 = .ok (.bipush 9, 2) := by decide +kernel
theorem dX0_readShift_73 : decode cX0_readShift 73 = .ok (.invokevirtual 56, 3) := by decide +kernel
theorem dX0_readShift_76 : decode cX0_readShift 76 = .ok (.ifCond .ne 5, 3) := by decide +kernel
theorem dX0_readShift_79 : decode cX0_readShift 79 = .ok (.iconst 0, 1) := by decide +kernel
theorem dX0_readShift_80 : decode cX0_readShift 80 = .ok (.ireturn, 1) := by decide +kernel
theorem dX0_readShift_81 : decode cX0_readShift 81 = .ok (.aload_n 1, 1) := by decide +kernel
theorem dX0_readShift_82 : decode cX0_readShift 82 = .ok (.getfield 86, 3) := by decide +kernel
theorem dX0_readShift_85 : decode cX0_readShift 85 = .ok (.iconst 3, 1) := by decide +kernel
theorem dX0_readShift_86 : decode cX0_readShift 86 = .ok (.imul, 1) := by decide +kernel
theorem dX0_readShift_87 : decode cX0_readShift 87 = .ok (.istore 4, 2) := by decide +kernel
theorem dX0_readShift_89 : decode cX0_readShift 89 = .ok (.aload_n 1, 1) := by decide +kernel
theorem dX0_readShift_90 : decode cX0_readShift 90 = .ok (.getfield 100, 3) := by decide +kernel
theorem dX0_readShift_93 : decode cX0_readShift 93 = .ok (.iload 4, 2) := by decide +kernel
theorem dX0_readShift_95 : decode cX0_readShift 95 = .ok (.iload_n 2, 1) := by decide +kernel
theorem dX0_readShift_96 : decode cX0_readShift 96 = .ok (.iastore, 1) := by decide +kernel
theorem dX0_readShift_97 : decode cX0_readShift 97 = .ok (.aload_n 1, 1) := by decide +kernel
theorem dX0_readShift_98 : decode cX0_readShift 98 = .ok (.getfield 100, 3) := by decide +kernel
theorem dX0_readShift_101 : decode cX0_readShift 101 = .ok (.iload 4, 2) := by decide +kernel
theorem dX0_readShift_103 : decode cX0_readShift 103 = .ok (.iconst 1, 1) := by decide +kernel
theorem dX0_readShift_104 : decode cX0_readShift 104 = .ok (.iadd, 1) := by decide +kernel
theorem dX0_readShift_105 : decode cX0_readShift 105 = .ok (.iload_n 3, 1) := by decide +kernel
theorem dX0_readShift_106 : decode cX0_readShift 106 = .ok (.iastore, 1) := by decide +kernel
theorem dX0_readShift_107 : decode cX0_readShift 107 = .ok (.aload_n 1, 1) := by decide +kernel
theorem dX0_readShift_108 : decode cX0_readShift 108 = .ok (.getfield 100, 3) := by decide +kernel
theorem dX0_readShift_111 : decode cX0_readShift 111 = .ok (.iload 4, 2) := by decide +kernel
theorem dX0_readShift_113 : decode cX0_readShift 113 = .ok (.iconst 2, 1) := by decide +kernel
theorem dX0_readShift_114 : decode cX0_readShift 114 = .ok (.iadd, 1) := by decide +kernel
theorem dX0_readShift_115 : decode cX0_readShift 115 = .ok (.aload_n 0, 1) := by decide +kernel
theorem dX0_readShift_116 : decode cX0_readShift 116 = .ok (.getfield 12, 3) := by decide +kernel
theorem dX0_readShift_119 : decode cX0_readShift 119 = .ok (.getfield 60, 3) := by decide +kernel
theorem dX0_readShift_122 : decode cX0_readShift 122 = .ok (.iastore, 1) := by decide +kernel
theorem dX0_readShift_123 : decode cX0_readShift 123 = .ok (.aload_n 1, 1) := by decide +kernel
theorem dX0_readShift_124 : decode cX0_readShift 124 = .ok (.dup, 1) := by decide +kernel
theorem dX0_readShift_125 : decode cX0_readShift 125 = .ok (.getfield 86, 3) := by decide +kernel
theorem dX0_readShift_128 : decode cX0_readShift 128 = .ok (.iconst 1, 1) := by decide +kernel
theorem dX0_readShift_129 : decode cX0_readShift 129 = .ok (.iadd, 1) := by decide +kernel
theorem dX0_readShift_130 : decode cX0_readShift 130 = .ok (.putfield 86, 3) := by decide +kernel
theorem dX0_readShift_133 : decode cX0_readShift 133 = .ok (.aload_n 0, 1) := by decide +kernel
theorem dX0_readShift_134 : decode cX0_readShift 134 = .ok (.invokevirtual 70, 3) := by decide +kernel
theorem dX0_readShift_137 : decode cX0_readShift 137 = .ok (.ireturn, 1) := by decide +kernel
theorem dX0_readFleets_0 : decode cX0_readFleets 0 = .ok (.iconst 0, 1) := by decide +kernel
theorem dX0_readFleets_1 : decode cX0_readFleets 1 = .ok (.istore_n 2, 1) := by decide +kernel
theorem dX0_readFleets_2 : decode cX0_readFleets 2 = .ok (.iload_n 2, 1) := by decide +kernel
theorem dX0_readFleets_3 : decode cX0_readFleets 3 = .ok (.bipush 16, 2) := by decide +kernel
theorem dX0_readFleets_5 : decode cX0_readFleets 5 = .ok (.if_icmp .gt 64, 3) := by decide +kernel
theorem dX0_readFleets_8 : decode cX0_readFleets 8 = .ok (.aload_n 0, 1) := by decide +kernel
theorem dX0_readFleets_9 : decode cX0_readFleets 9 = .ok (.getfield 12, 3) := by decide +kernel
theorem dX0_readFleets_12 : decode cX0_readFleets 12 = .ok (.ldc 104, 2) := by decide +kernel
theorem dX0_readFleets_14 : decode cX0_readFleets 14 = .ok (.invokevirtual 75, 3) := by decide +kernel
theorem dX0_readFleets_17 : decode cX0_readFleets 17 = .ok (.ifCond .eq 13, 3) := by decide +kernel
theorem dX0_readFleets_20 : decode cX0_readFleets 20 = .ok (.aload_n 0, 1) := by decide +kernel
theorem dX0_readFleets_21 : decode cX0_readFleets 21 = .ok (.aload_n 1, 1) := by decide +kernel
theorem dX0_readFleets_22 : decode cX0_readFleets 22 = .ok (.invokevirtual 106, 3) := by decide +kernel
theorem dX0_readFleets_25 : decode cX0_readFleets 25 = .ok (.ifCond .ne 38, 3) := by decide +kernel
theorem dX0_readFleets_28 : decode cX0_readFleets 28 = .ok (.iconst 0, 1) := by decide +kernel
theorem dX0_readFleets_29 : decode cX0_readFleets 29 = .ok (.ireturn, 1) := by decide +kernel
theorem dX0_readFleets_30 : decode cX0_readFleets 30 = .ok (.aload_n 1, 1) := by decide +kernel
theorem dX0_readFleets_31 : decode cX0_readFleets 31 = .ok (.getfield 109, 3) := by decide +kernel
theorem dX0_readFleets_34 : decode cX0_readFleets 34 = .ok (.ifCond .le 35, 3) := by decide +kernel
theorem dX0_readFleets_37 : decode cX0_readFleets 37 = .ok (.aload_n 0, 1) := by decide +kernel
theorem dX0_readFleets_38 : decode cX0_readFleets 38 = .ok (.getfield 12, 3) := by decide +kernel
theorem dX0_readFleets_41 : decode cX0_readFleets 41 = .ok (.ldc 112, 2) := by decide +kernel
theorem dX0_readFleets_43 : decode cX0_readFleets 43 = .ok (.invokevirtual 75, 3) := by decide +kernel
theorem dX0_readFleets_46 : decode cX0_readFleets 46 = .ok (.ifCond .eq 23, 3) := by decide +kernel
theorem dX0_readFleets_49 : decode cX0_readFleets 49 = .ok (.aload_n 0, 1) := by decide +kernel
theorem dX0_readFleets_50 : decode cX0_readFleets 50 = .ok (.aload_n 1, 1) := by decide +kernel
theorem dX0_readFleets_51 : decode cX0_readFleets 51 = .ok (.aload_n 1, 1) := by decide +kernel
theorem dX0_readFleets_52 : decode cX0_readFleets 52 = .ok (.getfield 114, 3) := by decide +kernel
theorem dX0_readFleets_55 : decode cX0_readFleets 55 = .ok (.invokevirtual 117, 3) := by decide +kernel
theorem dX0_readFleets_58 : decode cX0_readFleets 58 = .ok (.ifCond .ne 5, 3) := by decide +kernel
theorem dX0_readFleets_61 : decode cX0_readFleets 61 = .ok (.iconst 0, 1) := by decide +kernel
theorem dX0_readFleets_62 : decode cX0_readFleets 62 = .ok (.ireturn, 1) := by decide +kernel
theorem dX0_readFleets_63 : decode cX0_readFleets 63 = .ok (.iinc 2 1, 3) := by decide +kernel
theorem dX0_readFleets_66 : decode cX0_readFleets 66 = .ok (.goto (-64), 3) := by decide +kernel
theorem dX0_readFleets_69 : decode cX0_readFleets 69 = .ok (.aload_n 1, 1) := by decide +kernel
theorem dX0_readFleets_70 : decode cX0_readFleets 70 = .ok (.getfield 109, 3) := by decide +kernel
theorem dX0_readFleets_73 : decode cX0_readFleets 73 = .ok (.ifCond .le 13, 3) := by decide +kernel
theorem dX0_readFleets_76 : decode cX0_readFleets 76 = .ok (.aload_n 0, 1) := by decide +kernel
theorem dX0_readFleets_77 : decode cX0_readFleets 77 = .ok (.getfield 12, 3) := by decide +kernel
theorem dX0_readFleets_80 : decode cX0_readFleets 80 = .ok (.invokevirtual 121, 3) := by decide +kernel
theorem dX0_readFleets_83 : decode cX0_readFleets 83 = .ok (.ifCond .ne 15, 3) := by decide +kernel
theorem dX0_readFleets_86 : decode cX0_readFleets 86 = .ok (.aload_n 0, 1) := by decide +kernel
theorem dX0_readFleets_87 : decode cX0_readFleets 87 = .ok (.getfield 12, 3) := by decide +kernel
theorem dX0_readFleets_90 : decode cX0_readFleets 90 = .ok (.bipush (-2), 2) := by decide +kernel
theorem dX0_readFleets_92 : decode cX0_readFleets 92 = .ok (.invokevirtual 89, 3) := by decide +kernel
theorem dX0_readFleets_95 : decode cX0_readFleets 95 = .ok (.ifCond .eq 7, 3) := by decide +kernel
theorem dX0_readFleets_98 : decode cX0_readFleets 98 = .ok (.iconst 1, 1) := by decide +kernel
theorem dX0_readFleets_99 : decode cX0_readFleets 99 = .ok (.goto 4, 3) := by decide +kernel
theorem dX0_readFleets_102 : decode cX0_readFleets 102 = .ok (.iconst 0, 1) := by decide +kernel
theorem dX0_readFleets_103 : decode cX0_readFleets 103 = .ok (.ireturn, 1) := by decide +kernel
theorem dX0_readFleet_0 : decode cX0_readFleet 0 = .ok (.aload_n 1, 1) := by decide +kernel
theorem dX0_readFleet_1 : decode cX0_readFleet 1 = .ok (.getfield 109, 3) := by decide +kernel
theorem dX0_readFleet_4 : decode cX0_readFleet 4 = .ok (.iconst 4, 1) := by decide +kernel
theorem dX0_readFleet_5 : decode cX0_readFleet 5 = .ok (.if_icmp .lt 13, 3) := by decide +kernel
theorem dX0_readFleet_8 : decode cX0_readFleet 8 = .ok (.aload_n 0, 1) := by decide +kernel
theorem dX0_readFleet_9 : decode cX0_readFleet 9 = .ok (.getfield 12, 3) := by decide +kernel
theorem dX0_readFleet_12 : decode cX0_readFleet 12 = .ok (.bipush (-6), 2) := by decide +kernel
theorem dX0_readFleet_14 : decode cX0_readFleet 14 = .ok (.invokevirtual 89, 3) := by decide +kernel
theorem dX0_readFleet_17 : decode cX0_readFleet 17 = .ok (.ireturn, 1) := by decide +kernel
theorem dX0_readFleet_18 : decode cX0_readFleet 18 = .ok (.aload_n 0, 1) := by decide +kernel
theorem dX0_readFleet_19 : decode cX0_readFleet 19 = .ok (.getfield 12, 3) := by decide +kernel
theorem dX0_readFleet_22 : decode cX0_readFleet 22 = .ok (.invokevirtual 124, 3) := by decide +kernel
theorem dX0_readFleet_25 : decode cX0_readFleet 25 = .ok (.ifCond .ne 5, 3) := by decide +kernel
theorem dX0_readFleet_28 : decode cX0_readFleet 28 = .ok (.iconst 0, 1) := by decide +kernel
theorem dX0_readFleet_29 : decode cX0_readFleet 29 = .ok (.ireturn, 1) := by decide +kernel
theorem dX0_readFleet_30 : decode cX0_readFleet 30 = .ok (.iconst 0, 1) := by decide +kernel
theorem dX0_readFleet_31 : decode cX0_readFleet 31 = .ok (.istore_n 2, 1) := by decide +kernel
theorem dX0_readFleet_32 : decode cX0_readFleet 32 = .ok (.iload_n 2, 1) := by decide +kernel
theorem dX0_readFleet_33 : decode cX0_readFleet 33 = .ok (.aload_n 1, 1) := by decide +kernel
theorem dX0_readFleet_34 : decode cX0_readFleet 34 = .ok (.getfield 109, 3) := by decide +kernel
theorem dX0_readFleet_37 : decode cX0_readFleet 37 = .ok (.if_icmp .ge 36, 3) := by decide +kernel
theorem dX0_readFleet_40 : decode cX0_readFleet 40 = .ok (.aload_n 0, 1) := by decide +kernel
theorem dX0_readFleet_41 : decode cX0_readFleet 41 = .ok (.getfield 18, 3) := by decide +kernel
theorem dX0_readFleet_44 : decode cX0_readFleet 44 = .ok (.iload_n 2, 1) := by decide +kernel
theorem dX0_readFleet_45 : decode cX0_readFleet 45 = .ok (.laload, 1) := by decide +kernel
theorem dX0_readFleet_46 : decode cX0_readFleet 46 = .ok (.aload_n 0, 1) := by decide +kernel
theorem dX0_readFleet_47 : decode cX0_readFleet 47 = .ok (.getfield 12, 3) := by decide +kernel
theorem dX0_readFleet_50 : decode cX0_readFleet 50 = .ok (.getfield 127, 3) := by decide +kernel
theorem dX0_readFleet_53 : decode cX0_readFleet 53 = .ok (.lcmp, 1) := by decide +kernel
theorem dX0_readFleet_54 : decode cX0_readFleet 54 = .ok (.ifCond .ne 13, 3) := by decide +kernel
theorem dX0_readFleet_57 : decode cX0_readFleet 57 = .ok (.aload_n 0, 1) := by decide +kernel
theorem dX0_readFleet_58 : decode cX0_readFleet 58 = .ok (.getfield 12, 3) := by decide +kernel
theorem dX0_readFleet_61 : decode cX0_readFleet 61 = .ok (.bipush (-4), 2) := by decide +kernel
theorem dX0_readFleet_63 : decode cX0_readFleet 63 = .ok (.invokevirtual 89, 3) := by decide +kernel
theorem dX0_readFleet_66 : decode cX0_readFleet 66 = .ok (.ireturn, 1) := by decide +kernel
theorem dX0_readFleet_67 : decode cX0_readFleet 67 = .ok (.iinc 2 1, 3) := by decide +kernel
theorem dX0_readFleet_70 : decode cX0_readFleet 70 = .ok (.goto (-38), 3) := by decide +kernel
theorem dX0_readFleet_73 : decode cX0_readFleet 73 = .ok (.aload_n 0, 1) := by decide +kernel
theorem dX0_readFleet_74 : decode cX0_readFleet 74 = .ok (.getfield 18, 3) := by decide +kernel
theorem dX0_readFleet_77 : decode cX0_readFleet 77 = .ok (.aload_n 1, 1) := by decide +kernel
theorem dX0_readFleet_78 : decode cX0_readFleet 78 = .ok (.getfield 109, 3) := by decide +kernel
theorem dX0_readFleet_81 : decode cX0_readFleet 81 = .ok (.aload_n 0, 1) := by decide +kernel
theorem dX0_readFleet_82 : decode cX0_readFleet 82 = .ok (.getfield 12, 3) := by decide +kernel
theorem dX0_readFleet_85 : decode cX0_readFleet 85 = .ok (.getfield 127, 3) := by decide +kernel
theorem dX0_readFleet_88 : decode cX0_readFleet 88 = .ok (.lastore, 1) := by decide +kernel
theorem dX0_readFleet_89 : decode cX0_readFleet 89 = .ok (.aload_n 1, 1) := by decide +kernel
theorem dX0_readFleet_90 : decode cX0_readFleet 90 = .ok (.dup, 1) := by decide +kernel
theorem dX0_readFleet_91 : decode cX0_readFleet 91 = .ok (.getfield 109, 3) := by decide +kernel
theorem dX0_readFleet_94 : decode cX0_readFleet 94 = .ok (.iconst 1, 1) := by decide +kernel
theorem dX0_readFleet_95 : decode cX0_readFleet 95 = .ok (.iadd, 1) := by decide +kernel
theorem dX0_readFleet_96 : decode cX0_readFleet 96 = .ok (.putfield 109, 3) := by decide +kernel
theorem dX0_readFleet_99 : decode cX0_readFleet 99 = .ok (.aload_n 0, 1) := by decide +kernel
theorem dX0_readFleet_100 : decode cX0_readFleet 100 = .ok (.invokevirtual 70, 3) := by decide +kernel
theorem dX0_readFleet_103 : decode cX0_readFleet 103 = .ok (.ireturn, 1) := by decide +kernel
theorem dX0_readShip_0 : decode cX0_readShip 0 = .ok (.iload_n 2, 1) := by decide +kernel
theorem dX0_readShip_1 : decode cX0_readShip 1 = .ok (.bipush 12, 2) := by decide +kernel
theorem dX0_readShip_3 : decode cX0_readShip 3 = .ok (.if_icmp .lt 13, 3) := by decide +kernel
theorem dX0_readShip_6 : decode cX0_readShip 6 = .ok (.aload_n 0, 1) := by decide +kernel
theorem dX0_readShip_7 : decode cX0_readShip 7 = .ok (.getfield 12, 3) := by decide +kernel
theorem dX0_readShip_10 : decode cX0_readShip 10 = .ok (.bipush (-6), 2) := by decide +kernel
theorem dX0_readShip_12 : decode cX0_readShip 12 = .ok (.invokevirtual 89, 3) := by decide +kernel
theorem dX0_readShip_15 : decode cX0_readShip 15 = .ok (.ireturn, 1) := by decide +kernel
theorem dX0_readShip_16 : decode cX0_readShip 16 = .ok (.aload_n 0, 1) := by decide +kernel
theorem dX0_readShip_17 : decode cX0_readShip 17 = .ok (.getfield 12, 3) := by decide +kernel
theorem dX0_readShip_20 : decode cX0_readShip 20 = .ok (.invokevirtual 124, 3) := by decide +kernel
theorem dX0_readShip_23 : decode cX0_readShip 23 = .ok (.ifCond .ne 5, 3) := by decide +kernel
theorem dX0_readShip_26 : decode cX0_readShip 26 = .ok (.iconst 0, 1) := by decide +kernel
theorem dX0_readShip_27 : decode cX0_readShip 27 = .ok (.ireturn, 1) := by decide +kernel
theorem dX0_readShip_28 : decode cX0_readShip 28 = .ok (.aload_n 1, 1) := by decide +kernel
theorem dX0_readShip_29 : decode cX0_readShip 29 = .ok (.aload_n 0, 1) := by decide +kernel
theorem dX0_readShip_30 : decode cX0_readShip 30 = .ok (.getfield 12, 3) := by decide +kernel
theorem dX0_readShip_33 : decode cX0_readShip 33 = .ok (.getfield 127, 3) := by decide +kernel
theorem dX0_readShip_36 : decode cX0_readShip 36 = .ok (.invokevirtual 131, 3) := by decide +kernel
theorem dX0_readShip_39 : decode cX0_readShip 39 = .ok (.iconst (-1), 1) := by decide +kernel
theorem dX0_readShip_40 : decode cX0_readShip 40 = .ok (.if_icmp .eq 13, 3) := by decide +kernel
theorem dX0_readShip_43 : decode cX0_readShip 43 = .ok (.aload_n 0, 1) := by decide +kernel
theorem dX0_readShip_44 : decode cX0_readShip 44 = .ok (.getfield 12, 3) := by decide +kernel
theorem dX0_readShip_47 : decode cX0_readShip 47 = .ok (.bipush (-4), 2) := by decide +kernel
theorem dX0_readShip_49 : decode cX0_readShip 49 = .ok (.invokevirtual 89, 3) := by decide +kernel
theorem dX0_readShip_52 : decode cX0_readShip 52 = .ok (.ireturn, 1) := by decide +kernel
theorem dX0_readShip_53 : decode cX0_readShip 53 = .ok (.aload_n 1, 1) := by decide +kernel
theorem dX0_readShip_54 : decode cX0_readShip 54 = .ok (.iload_n 2, 1) := by decide +kernel
theorem dX0_readShip_55 : decode cX0_readShip 55 = .ok (.aload_n 1, 1) := by decide +kernel
theorem dX0_readShip_56 : decode cX0_readShip 56 = .ok (.getfield 109, 3) := by decide +kernel
theorem dX0_readShip_59 : decode cX0_readShip 59 = .ok (.iconst 1, 1) := by decide +kernel
theorem dX0_readShip_60 : decode cX0_readShip 60 = .ok (.isub, 1) := by decide +kernel
theorem dX0_readShip_61 : decode cX0_readShip 61 = .ok (.aload_n 0, 1) := by decide +kernel
theorem dX0_readShip_62 : decode cX0_readShip 62 = .ok (.getfield 12, 3) := by decide +kernel
theorem dX0_readShip_65 : decode cX0_readShip 65 = .ok (.getfield 127, 3) := by decide +kernel
theorem dX0_readShip_68 : decode cX0_readShip 68 = .ok (.invokevirtual 135, 3) := by decide +kernel
theorem dX0_readShip_71 : decode cX0_readShip 71 = .ok (.aload_n 0, 1) := by decide +kernel
theorem dX0_readShip_72 : decode cX0_readShip 72 = .ok (.aload_n 1, 1) := by decide +kernel
theorem dX0_readShip_73 : decode cX0_readShip 73 = .ok (.iload_n 2, 1) := by decide +kernel
theorem dX0_readShip_74 : decode cX0_readShip 74 = .ok (.invokevirtual 139, 3) := by decide +kernel
theorem dX0_readShip_77 : decode cX0_readShip 77 = .ok (.ifCond .eq 19, 3) := by decide +kernel
theorem dX0_readShip_80 : decode cX0_readShip 80 = .ok (.aload_n 0, 1) := by decide +kernel
theorem dX0_readShip_81 : decode cX0_readShip 81 = .ok (.aload_n 1, 1) := by decide +kernel
theorem dX0_readShip_82 : decode cX0_readShip 82 = .ok (.iload_n 2, 1) := by decide +kernel
theorem dX0_readShip_83 : decode cX0_readShip 83 = .ok (.invokevirtual 142, 3) := by decide +kernel
theorem dX0_readShip_86 : decode cX0_readShip 86 = .ok (.ifCond .eq 10, 3) := by decide +kernel
theorem dX0_readShip_89 : decode cX0_readShip 89 = .ok (.aload_n 0, 1) := by decide +kernel
theorem dX0_readShip_90 : decode cX0_readShip 90 = .ok (.invokevirtual 70, 3) := by decide +kernel
theorem dX0_readShip_93 : decode cX0_readShip 93 = .ok (.ifCond .ne 5, 3) := by decide +kernel
theorem dX0_readShip_96 : decode cX0_readShip 96 = .ok (.iconst 0, 1) := by decide +kernel
theorem dX0_readShip_97 : decode cX0_readShip 97 = .ok (.ireturn, 1) := by decide +kernel
theorem dX0_readShip_98 : decode cX0_readShip 98 = .ok (.aload_n 1, 1) := by decide +kernel
theorem dX0_readShip_99 : decode cX0_readShip 99 = .ok (.dup, 1) := by decide +kernel
theorem dX0_readShip_100 : decode cX0_readShip 100 = .ok (.getfield 114, 3) := by decide +kernel
theorem dX0_readShip_103 : decode cX0_readShip 103 = .ok (.iconst 1, 1) := by decide +kernel
theorem dX0_readShip_104 : decode cX0_readShip 104 = .ok (.iadd, 1) := by decide +kernel
theorem dX0_readShip_105 : decode cX0_readShip 105 = .ok (.putfield 114, 3) := by decide +kernel
theorem dX0_readShip_108 : decode cX0_readShip 108 = .ok (.iconst 1, 1) := by decide +kernel
theorem dX0_readShip_109 : decode cX0_readShip 109 = .ok (.ireturn, 1) := by decide +kernel
theorem dX0_readPlace_0 : decode cX0_readPlace 0 = .ok (.aload_n 0, 1) := by decide +kernel
theorem dX0_readPlace_1 : decode cX0_readPlace 1 = .ok (.getfield 12, 3) := by decide +kernel
theorem dX0_readPlace_4 : decode cX0_readPlace 4 = .ok (.iconst 0, 1) := by decide +kernel
theorem dX0_readPlace_5 : decode cX0_readPlace 5 = .ok (.aload_n 1, 1) := by decide +kernel
theorem dX0_readPlace_6 : decode cX0_readPlace 6 = .ok (.getfield 64, 3) := by decide +kernel
theorem dX0_readPlace_9 : decode cX0_readPlace 9 = .ok (.iconst 1, 1) := by decide +kernel
theorem dX0_readPlace_10 : decode cX0_readPlace 10 = .ok (.isub, 1) := by decide +kernel
theorem dX0_readPlace_11 : decode cX0_readPlace 11 = .ok (.invokevirtual 56, 3) := by decide +kernel
theorem dX0_readPlace_14 : decode cX0_readPlace 14 = .ok (.ifCond .ne 5, 3) := by decide +kernel
theorem dX0_readPlace_17 : decode cX0_readPlace 17 = .ok (.iconst 0, 1) := by decide +kernel
theorem dX0_readPlace_18 : decode cX0_readPlace 18 = .ok (.ireturn, 1) := by decide +kernel
theorem dX0_readPlace_19 : decode cX0_readPlace 19 = .ok (.aload_n 0, 1) := by decide +kernel
theorem dX0_readPlace_20 : decode cX0_readPlace 20 = .ok (.getfield 12, 3) := by decide +kernel
theorem dX0_readPlace_23 : decode cX0_readPlace 23 = .ok (.getfield 60, 3) := by decide +kernel
theorem dX0_readPlace_26 : decode cX0_readPlace 26 = .ok (.istore_n 3, 1) := by decide +kernel
theorem dX0_readPlace_27 : decode cX0_readPlace 27 = .ok (.aload_n 0, 1) := by decide +kernel
theorem dX0_readPlace_28 : decode cX0_readPlace 28 = .ok (.getfield 12, 3) := by decide +kernel
theorem dX0_readPlace_31 : decode cX0_readPlace 31 = .ok (.iconst 0, 1) := by decide +kernel
theorem dX0_readPlace_32 : decode cX0_readPlace 32 = .ok (.aload_n 1, 1) := by decide +kernel
theorem dX0_readPlace_33 : decode cX0_readPlace 33 = .ok (.getfield 67, 3) := by decide +kernel
theorem dX0_readPlace_36 : decode cX0_readPlace 36 = .ok (.iconst 1, 1) := by decide +kernel
theorem dX0_readPlace_37 : decode cX0_readPlace 37 = .ok (.isub, 1) := by decide +kernel
theorem dX0_readPlace_38 : decode cX0_readPlace 38 = .ok (.invokevirtual 56, 3) := by decide +kernel
theorem dX0_readPlace_41 : decode cX0_readPlace 41 = .ok (.ifCond .ne 5, 3) := by decide +kernel
theorem dX0_readPlace_44 : decode cX0_readPlace 44 = .ok (.iconst 0, 1) := by decide +kernel
theorem dX0_readPlace_45 : decode cX0_readPlace 45 = .ok (.ireturn, 1) := by decide +kernel
theorem dX0_readPlace_46 : decode cX0_readPlace 46 = .ok (.aload_n 0, 1) := by decide +kernel
theorem dX0_readPlace_47 : decode cX0_readPlace 47 = .ok (.getfield 12, 3) := by decide +kernel
theorem dX0_readPlace_50 : decode cX0_readPlace 50 = .ok (.getfield 60, 3) := by decide +kernel
theorem dX0_readPlace_53 : decode cX0_readPlace 53 = .ok (.istore 4, 2) := by decide +kernel
theorem dX0_readPlace_55 : decode cX0_readPlace 55 = .ok (.aload_n 0, 1) := by decide +kernel
theorem dX0_readPlace_56 : decode cX0_readPlace 56 = .ok (.getfield 12, 3) := by decide +kernel
theorem dX0_readPlace_59 : decode cX0_readPlace 59 = .ok (.iconst 0, 1) := by decide +kernel
theorem dX0_readPlace_60 : decode cX0_readPlace 60 = .ok (.bipush 7, 2) := by decide +kernel
theorem dX0_readPlace_62 : decode cX0_readPlace 62 = .ok (.invokevirtual 56, 3) := by decide +kernel
theorem dX0_readPlace_65 : decode cX0_readPlace 65 = .ok (.ifCond .ne 5, 3) := by decide +kernel
theorem dX0_readPlace_68 : decode cX0_readPlace 68 = .ok (.iconst 0, 1) := by decide +kernel
theorem dX0_readPlace_69 : decode cX0_readPlace 69 = .ok (.ireturn, 1) := by decide +kernel
theorem dX0_readPlace_70 : decode cX0_readPlace 70 = .ok (.aload_n 1, 1) := by decide +kernel
theorem dX0_readPlace_71 : decode cX0_readPlace 71 = .ok (.iload_n 3, 1) := by decide +kernel
theorem dX0_readPlace_72 : decode cX0_readPlace 72 = .ok (.iload 4, 2) := by decide +kernel
theorem dX0_readPlace_74 : decode cX0_readPlace 74 = .ok (.invokevirtual 145, 3) := by decide +kernel
theorem dX0_readPlace_77 : decode cX0_readPlace 77 = .ok (.iconst (-1), 1) := by decide +kernel
theorem dX0_readPlace_78 : decode cX0_readPlace 78 = .ok (.if_icmp .eq 13, 3) := by decide +kernel
theorem dX0_readPlace_81 : decode cX0_readPlace 81 = .ok (.aload_n 0, 1) := by decide +kernel
theorem dX0_readPlace_82 : decode cX0_readPlace 82 = .ok (.getfield 12, 3) := by decide +kernel
theorem dX0_readPlace_85 : decode cX0_readPlace 85 = .ok (.bipush (-5), 2) := by decide +kernel
theorem dX0_readPlace_87 : decode cX0_readPlace 87 = .ok (.invokevirtual 89, 3) := by decide +kernel
theorem dX0_readPlace_90 : decode cX0_readPlace 90 = .ok (.ireturn, 1) := by decide +kernel
theorem dX0_readPlace_91 : decode cX0_readPlace 91 = .ok (.aload_n 1, 1) := by decide +kernel
theorem dX0_readPlace_92 : decode cX0_readPlace 92 = .ok (.iload_n 2, 1) := by decide +kernel
theorem dX0_readPlace_93 : decode cX0_readPlace 93 = .ok (.iconst 1, 1) := by decide +kernel
theorem dX0_readPlace_94 : decode cX0_readPlace 94 = .ok (.iload_n 3, 1) := by decide +kernel
theorem dX0_readPlace_95 : decode cX0_readPlace 95 = .ok (.invokevirtual 149, 3) := by decide +kernel
theorem dX0_readPlace_98 : decode cX0_readPlace 98 = .ok (.aload_n 1, 1) := by decide +kernel
theorem dX0_readPlace_99 : decode cX0_readPlace 99 = .ok (.iload_n 2, 1) := by decide +kernel
theorem dX0_readPlace_100 : decode cX0_readPlace 100 = .ok (.iconst 2, 1) := by decide +kernel
theorem dX0_readPlace_101 : decode cX0_readPlace 101 = .ok (.iload 4, 2) := by decide +kernel
theorem dX0_readPlace_103 : decode cX0_readPlace 103 = .ok (.invokevirtual 149, 3) := by decide +kernel
theorem dX0_readPlace_106 : decode cX0_readPlace 106 = .ok (.aload_n 1, 1) := by decide +kernel
theorem dX0_readPlace_107 : decode cX0_readPlace 107 = .ok (.iload_n 2, 1) := by decide +kernel
theorem dX0_readPlace_108 : decode cX0_readPlace 108 = .ok (.iconst 3, 1) := by decide +kernel
theorem dX0_readPlace_109 : decode cX0_readPlace 109 = .ok (.aload_n 0, 1) := by decide +kernel
theorem dX0_readPlace_110 : decode cX0_readPlace 110 = .ok (.getfield 12, 3) := by decide +kernel
theorem dX0_readPlace_113 : decode cX0_readPlace 113 = .ok (.getfield 60, 3) := by decide +kernel
theorem dX0_readPlace_116 : decode cX0_readPlace 116 = .ok (.invokevirtual 149, 3) := by decide +kernel
theorem dX0_readPlace_119 : decode cX0_readPlace 119 = .ok (.iconst 1, 1) := by decide +kernel
theorem dX0_readPlace_120 : decode cX0_readPlace 120 = .ok (.ireturn, 1) := by decide +kernel
theorem dX0_readOptions_0 : decode cX0_readOptions 0 = .ok (.iconst 0, 1) := by decide +kernel
theorem dX0_readOptions_1 : decode cX0_readOptions 1 = .ok (.istore_n 3, 1) := by decide +kernel
theorem dX0_readOptions_2 : decode cX0_readOptions 2 = .ok (.aload_n 0, 1) := by decide +kernel
theorem dX0_readOptions_3 : decode cX0_readOptions 3 = .ok (.getfield 12, 3) := by decide +kernel
theorem dX0_readOptions_6 : decode cX0_readOptions 6 = .ok (.invokevirtual 47, 3) := by decide +kernel
theorem dX0_readOptions_9 : decode cX0_readOptions 9 = .ok (.iconst 0, 1) := by decide +kernel
theorem dX0_readOptions_10 : decode cX0_readOptions 10 = .ok (.istore 4, 2) := by decide +kernel
theorem dX0_readOptions_12 : decode cX0_readOptions 12 = .ok (.iload 4, 2) := by decide +kernel
theorem dX0_readOptions_14 : decode cX0_readOptions 14 = .ok (.bipush 11, 2) := by decide +kernel
theorem dX0_readOptions_16 : decode cX0_readOptions 16 = .ok (.if_icmp .gt 117, 3) := by decide +kernel
theorem dX0_readOptions_19 : decode cX0_readOptions 19 = .ok (.aload_n 0, 1) := by decide +kernel
theorem dX0_readOptions_20 : decode cX0_readOptions 20 = .ok (.getfield 12, 3) := by decide +kernel
theorem dX0_readOptions_23 : decode cX0_readOptions 23 = .ok (.invokevirtual 153, 3) := by decide +kernel
theorem dX0_readOptions_26 : decode cX0_readOptions 26 = .ok (.ifCond .ne 107, 3) := by decide +kernel
theorem dX0_readOptions_29 : decode cX0_readOptions 29 = .ok (.aload_n 0, 1) := by decide +kernel
theorem dX0_readOptions_30 : decode cX0_readOptions 30 = .ok (.invokevirtual 156, 3) := by decide +kernel
theorem dX0_readOptions_33 : decode cX0_readOptions 33 = .ok (.istore 5, 2) := by decide +kernel
theorem dX0_readOptions_35 : decode cX0_readOptions 35 = .ok (.iload 5, 2) := by decide +kernel
theorem dX0_readOptions_37 : decode cX0_readOptions 37 = .ok (.iconst (-1), 1) := by decide +kernel
theorem dX0_readOptions_38 : decode cX0_readOptions 38 = .ok (.if_icmp .ne 13, 3) := by decide +kernel
theorem dX0_readOptions_41 : decode cX0_readOptions 41 = .ok (.aload_n 0, 1) := by decide +kernel
theorem dX0_readOptions_42 : decode cX0_readOptions 42 = .ok (.getfield 12, 3) := by decide +kernel
theorem dX0_readOptions_45 : decode cX0_readOptions 45 = .ok (.bipush (-2), 2) := by decide +kernel
theorem dX0_readOptions_47 : decode cX0_readOptions 47 = .ok (.invokevirtual 89, 3) := by decide +kernel
theorem dX0_readOptions_50 : decode cX0_readOptions 50 = .ok (.ireturn, 1) := by decide +kernel
theorem dX0_readOptions_51 : decode cX0_readOptions 51 = .ok (.iload_n 3, 1) := by decide +kernel
theorem dX0_readOptions_52 : decode cX0_readOptions 52 = .ok (.iload 5, 2) := by decide +kernel
theorem dX0_readOptions_54 : decode cX0_readOptions 54 = .ok (.ishr, 1) := by decide +kernel
theorem dX0_readOptions_55 : decode cX0_readOptions 55 = .ok (.iconst 1, 1) := by decide +kernel
theorem dX0_readOptions_56 : decode cX0_readOptions 56 = .ok (.iand, 1) := by decide +kernel
theorem dX0_readOptions_57 : decode cX0_readOptions 57 = .ok (.ifCond .eq 13, 3) := by decide +kernel
theorem dX0_readOptions_60 : decode cX0_readOptions 60 = .ok (.aload_n 0, 1) := by decide +kernel
theorem dX0_readOptions_61 : decode cX0_readOptions 61 = .ok (.getfield 12, 3) := by decide +kernel
theorem dX0_readOptions_64 : decode cX0_readOptions 64 = .ok (.bipush (-4), 2) := by decide +kernel
theorem dX0_readOptions_66 : decode cX0_readOptions 66 = .ok (.invokevirtual 89, 3) := by decide +kernel
theorem dX0_readOptions_69 : decode cX0_readOptions 69 = .ok (.ireturn, 1) := by decide +kernel
theorem dX0_readOptions_70 : decode cX0_readOptions 70 = .ok (.iload_n 3, 1) := by decide +kernel
theorem dX0_readOptions_71 : decode cX0_readOptions 71 = .ok (.iconst 1, 1) := by decide +kernel
theorem dX0_readOptions_72 : decode cX0_readOptions 72 = .ok (.iload 5, 2) := by decide +kernel
theorem dX0_readOptions_74 : decode cX0_readOptions 74 = .ok (.ishl, 1) := by decide +kernel
theorem dX0_readOptions_75 : decode cX0_readOptions 75 = .ok (.ior, 1) := by decide +kernel
theorem dX0_readOptions_76 : decode cX0_readOptions 76 = .ok (.istore_n 3, 1) := by decide +kernel
theorem dX0_readOptions_77 : decode cX0_readOptions 77 = .ok (.aload_n 0, 1) := by decide +kernel
theorem dX0_readOptions_78 : decode cX0_readOptions 78 = .ok (.getfield 12, 3) := by decide +kernel
theorem dX0_readOptions_81 : decode cX0_readOptions 81 = .ok (.iload 5, 2) := by decide +kernel
theorem dX0_readOptions_83 : decode cX0_readOptions 83 = .ok (.bipush 7, 2) := by decide +kernel
theorem dX0_readOptions_85 : decode cX0_readOptions 85 = .ok (.if_icmp .ne 7, 3) := by decide +kernel
theorem dX0_readOptions_88 : decode cX0_readOptions 88 = .ok (.iconst 0, 1) := by decide +kernel
theorem dX0_readOptions_89 : decode cX0_readOptions 89 = .ok (.goto 4, 3) := by decide +kernel
theorem dX0_readOptions_92 : decode cX0_readOptions 92 = .ok (.iconst 1, 1) := by decide +kernel
theorem dX0_readOptions_93 : decode cX0_readOptions 93 = .ok (.iload 5, 2) := by decide +kernel
theorem dX0_readOptions_95 : decode cX0_readOptions 95 = .ok (.invokestatic 160, 3) := by decide +kernel
theorem dX0_readOptions_98 : decode cX0_readOptions 98 = .ok (.invokevirtual 56, 3) := by decide +kernel
theorem dX0_readOptions_101 : decode cX0_readOptions 101 = .ok (.ifCond .ne 5, 3) := by decide +kernel
theorem dX0_readOptions_104 : decode cX0_readOptions 104 = .ok (.iconst 0, 1) := by decide +kernel
theorem dX0_readOptions_105 : decode cX0_readOptions 105 = .ok (.ireturn, 1) := by decide +kernel
theorem dX0_readOptions_106 : decode cX0_readOptions 106 = .ok (.aload_n 1, 1) := by decide +kernel
theorem dX0_readOptions_107 : decode cX0_readOptions 107 = .ok (.iload_n 2, 1) := by decide +kernel
theorem dX0_readOptions_108 : decode cX0_readOptions 108 = .ok (.iload 5, 2) := by decide +kernel
theorem dX0_readOptions_110 : decode cX0_readOptions 110 = .ok (.aload_n 0, 1) := by decide +kernel
theorem dX0_readOptions_111 : decode cX0_readOptions 111 = .ok (.getfield 12, 3) := by decide +kernel
theorem dX0_readOptions_114 : decode cX0_readOptions 114 = .ok (.getfield 60, 3) := by decide +kernel
theorem dX0_readOptions_117 : decode cX0_readOptions 117 = .ok (.invokevirtual 149, 3) := by decide +kernel
theorem dX0_readOptions_120 : decode cX0_readOptions 120 = .ok (.aload_n 0, 1) := by decide +kernel
theorem dX0_readOptions_121 : decode cX0_readOptions 121 = .ok (.getfield 12, 3) := by decide +kernel
theorem dX0_readOptions_124 : decode cX0_readOptions 124 = .ok (.invokevirtual 47, 3) := by decide +kernel
theorem dX0_readOptions_127 : decode cX0_readOptions 127 = .ok (.iinc 4 1, 3) := by decide +kernel
theorem dX0_readOptions_130 : decode cX0_readOptions 130 = .ok (.goto (-118), 3) := by decide +kernel
theorem dX0_readOptions_133 : decode cX0_readOptions 133 = .ok (.iconst 1, 1) := by decide +kernel
theorem dX0_readOptions_134 : decode cX0_readOptions 134 = .ok (.ireturn, 1) := by decide +kernel
theorem dX0_optionHere_0 : decode cX0_optionHere 0 = .ok (.aload_n 0, 1) := by decide +kernel
theorem dX0_optionHere_1 : decode cX0_optionHere 1 = .ok (.getfield 12, 3) := by decide +kernel
theorem dX0_optionHere_4 : decode cX0_optionHere 4 = .ok (.ldc 163, 2) := by decide +kernel
theorem dX0_optionHere_6 : decode cX0_optionHere 6 = .ok (.invokevirtual 75, 3) := by decide +kernel
theorem dX0_optionHere_9 : decode cX0_optionHere 9 = .ok (.ifCond .eq 5, 3) := by decide +kernel
theorem dX0_optionHere_12 : decode cX0_optionHere 12 = .ok (.iconst 4, 1) := by decide +kernel
theorem dX0_optionHere_13 : decode cX0_optionHere 13 = .ok (.ireturn, 1) := by decide +kernel
theorem dX0_optionHere_14 : decode cX0_optionHere 14 = .ok (.aload_n 0, 1) := by decide +kernel
theorem dX0_optionHere_15 : decode cX0_optionHere 15 = .ok (.getfield 12, 3) := by decide +kernel
theorem dX0_optionHere_18 : decode cX0_optionHere 18 = .ok (.ldc 165, 2) := by decide +kernel
theorem dX0_optionHere_20 : decode cX0_optionHere 20 = .ok (.invokevirtual 75, 3) := by decide +kernel
theorem dX0_optionHere_23 : decode cX0_optionHere 23 = .ok (.ifCond .eq 5, 3) := by decide +kernel
theorem dX0_optionHere_26 : decode cX0_optionHere 26 = .ok (.iconst 5, 1) := by decide +kernel
theorem dX0_optionHere_27 : decode cX0_optionHere 27 = .ok (.ireturn, 1) := by decide +kernel
theorem dX0_optionHere_28 : decode cX0_optionHere 28 = .ok (.aload_n 0, 1) := by decide +kernel
theorem dX0_optionHere_29 : decode cX0_optionHere 29 = .ok (.getfield 12, 3) := by decide +kernel
theorem dX0_optionHere_32 : decode cX0_optionHere 32 = .ok (.ldc 167, 2) := by decide +kernel
theorem dX0_optionHere_34 : decode cX0_optionHere 34 = .ok (.invokevirtual 75, 3) := by decide +kernel
theorem dX0_optionHere_37 : decode cX0_optionHere 37 = .ok (.ifCond .eq 6, 3) := by decide +kernel
theorem dX0_optionHere_40 : decode cX0_optionHere 40 = .ok (.bipush 6, 2) := by decide +kernel
theorem dX0_optionHere_42 : decode cX0_optionHere 42 = .ok (.ireturn, 1) := by decide +kernel
theorem dX0_optionHere_43 : decode cX0_optionHere 43 = .ok (.aload_n 0, 1) := by decide +kernel
theorem dX0_optionHere_44 : decode cX0_optionHere 44 = .ok (.getfield 12, 3) := by decide +kernel
theorem dX0_optionHere_47 : decode cX0_optionHere 47 = .ok (.ldc 169, 2) := by decide +kernel
theorem dX0_optionHere_49 : decode cX0_optionHere 49 = .ok (.invokevirtual 75, 3) := by decide +kernel
theorem dX0_optionHere_52 : decode cX0_optionHere 52 = .ok (.ifCond .eq 8, 3) := by decide +kernel
theorem dX0_optionHere_55 : decode cX0_optionHere 55 = .ok (.bipush 7, 2) := by decide +kernel
theorem dX0_optionHere_57 : decode cX0_optionHere 57 = .ok (.goto 4, 3) := by decide +kernel
theorem dX0_optionHere_60 : decode cX0_optionHere 60 = .ok (.iconst (-1), 1) := by decide +kernel
theorem dX0_optionHere_61 : decode cX0_optionHere 61 = .ok (.ireturn, 1) := by decide +kernel
theorem dX0_mostOf_0 : decode cX0_mostOf 0 = .ok (.iload_n 0, 1) := by decide +kernel
theorem dX0_mostOf_1 : decode cX0_mostOf 1 = .ok (.iconst 4, 1) := by decide +kernel
theorem dX0_mostOf_2 : decode cX0_mostOf 2 = .ok (.if_icmp .ne 6, 3) := by decide +kernel
theorem dX0_mostOf_5 : decode cX0_mostOf 5 = .ok (.bipush 99, 2) := by decide +kernel
theorem dX0_mostOf_7 : decode cX0_mostOf 7 = .ok (.ireturn, 1) := by decide +kernel
theorem dX0_mostOf_8 : decode cX0_mostOf 8 = .ok (.iload_n 0, 1) := by decide +kernel
theorem dX0_mostOf_9 : decode cX0_mostOf 9 = .ok (.bipush 7, 2) := by decide +kernel
theorem dX0_mostOf_11 : decode cX0_mostOf 11 = .ok (.if_icmp .ne 7, 3) := by decide +kernel
theorem dX0_mostOf_14 : decode cX0_mostOf 14 = .ok (.iconst 3, 1) := by decide +kernel
theorem dX0_mostOf_15 : decode cX0_mostOf 15 = .ok (.goto 5, 3) := by decide +kernel
theorem dX0_mostOf_18 : decode cX0_mostOf 18 = .ok (.bipush 9, 2) := by decide +kernel
theorem dX0_mostOf_20 : decode cX0_mostOf 20 = .ok (.ireturn, 1) := by decide +kernel
theorem dX0_readOrders_0 : decode cX0_readOrders 0 = .ok (.aload_n 0, 1) := by decide +kernel
theorem dX0_readOrders_1 : decode cX0_readOrders 1 = .ok (.getfield 12, 3) := by decide +kernel
theorem dX0_readOrders_4 : decode cX0_readOrders 4 = .ok (.invokevirtual 22, 3) := by decide +kernel
theorem dX0_readOrders_7 : decode cX0_readOrders 7 = .ok (.aload_n 0, 1) := by decide +kernel
theorem dX0_readOrders_8 : decode cX0_readOrders 8 = .ok (.getfield 12, 3) := by decide +kernel
theorem dX0_readOrders_11 : decode cX0_readOrders 11 = .ok (.invokevirtual 47, 3) := by decide +kernel
theorem dX0_readOrders_14 : decode cX0_readOrders 14 = .ok (.aload_n 1, 1) := by decide +kernel
theorem dX0_readOrders_15 : decode cX0_readOrders 15 = .ok (.iload_n 2, 1) := by decide +kernel
theorem dX0_readOrders_16 : decode cX0_readOrders 16 = .ok (.invokestatic 171, 3) := by decide +kernel
theorem dX0_readOrders_19 : decode cX0_readOrders 19 = .ok (.iconst 0, 1) := by decide +kernel
theorem dX0_readOrders_20 : decode cX0_readOrders 20 = .ok (.istore_n 3, 1) := by decide +kernel
theorem dX0_readOrders_21 : decode cX0_readOrders 21 = .ok (.aload_n 0, 1) := by decide +kernel
theorem dX0_readOrders_22 : decode cX0_readOrders 22 = .ok (.iconst 0, 1) := by decide +kernel
theorem dX0_readOrders_23 : decode cX0_readOrders 23 = .ok (.putfield 175, 3) := by decide +kernel
theorem dX0_readOrders_26 : decode cX0_readOrders 26 = .ok (.iconst 0, 1) := by decide +kernel
theorem dX0_readOrders_27 : decode cX0_readOrders 27 = .ok (.istore 4, 2) := by decide +kernel
theorem dX0_readOrders_29 : decode cX0_readOrders 29 = .ok (.iload 4, 2) := by decide +kernel
theorem dX0_readOrders_31 : decode cX0_readOrders 31 = .ok (.bipush 12, 2) := by decide +kernel
theorem dX0_readOrders_33 : decode cX0_readOrders 33 = .ok (.if_icmp .gt 70, 3) := by decide +kernel
theorem dX0_readOrders_36 : decode cX0_readOrders 36 = .ok (.aload_n 0, 1) := by decide +kernel
theorem dX0_readOrders_37 : decode cX0_readOrders 37 = .ok (.getfield 12, 3) := by decide +kernel
theorem dX0_readOrders_40 : decode cX0_readOrders 40 = .ok (.invokevirtual 121, 3) := by decide +kernel
theorem dX0_readOrders_43 : decode cX0_readOrders 43 = .ok (.ifCond .ne 60, 3) := by decide +kernel
theorem dX0_readOrders_46 : decode cX0_readOrders 46 = .ok (.aload_n 0, 1) := by decide +kernel
theorem dX0_readOrders_47 : decode cX0_readOrders 47 = .ok (.aload_n 1, 1) := by decide +kernel
theorem dX0_readOrders_48 : decode cX0_readOrders 48 = .ok (.iload_n 2, 1) := by decide +kernel
theorem dX0_readOrders_49 : decode cX0_readOrders 49 = .ok (.iload_n 3, 1) := by decide +kernel
theorem dX0_readOrders_50 : decode cX0_readOrders 50 = .ok (.invokevirtual 178, 3) := by decide +kernel
theorem dX0_readOrders_53 : decode cX0_readOrders 53 = .ok (.istore 5, 2) := by decide +kernel
theorem dX0_readOrders_55 : decode cX0_readOrders 55 = .ok (.iload 5, 2) := by decide +kernel
theorem dX0_readOrders_57 : decode cX0_readOrders 57 = .ok (.iconst (-1), 1) := by decide +kernel
theorem dX0_readOrders_58 : decode cX0_readOrders 58 = .ok (.if_icmp .eq 20, 3) := by decide +kernel
theorem dX0_readOrders_61 : decode cX0_readOrders 61 = .ok (.aload_n 0, 1) := by decide +kernel
theorem dX0_readOrders_62 : decode cX0_readOrders 62 = .ok (.aload_n 1, 1) := by decide +kernel
theorem dX0_readOrders_63 : decode cX0_readOrders 63 = .ok (.iload 5, 2) := by decide +kernel
theorem dX0_readOrders_65 : decode cX0_readOrders 65 = .ok (.invokevirtual 182, 3) := by decide +kernel
theorem dX0_readOrders_68 : decode cX0_readOrders 68 = .ok (.ifCond .eq 10, 3) := by decide +kernel
theorem dX0_readOrders_71 : decode cX0_readOrders 71 = .ok (.aload_n 0, 1) := by decide +kernel
theorem dX0_readOrders_72 : decode cX0_readOrders 72 = .ok (.invokevirtual 70, 3) := by decide +kernel
theorem dX0_readOrders_75 : decode cX0_readOrders 75 = .ok (.ifCond .ne 5, 3) := by decide +kernel
theorem dX0_readOrders_78 : decode cX0_readOrders 78 = .ok (.iconst 0, 1) := by decide +kernel
theorem dX0_readOrders_79 : decode cX0_readOrders 79 = .ok (.ireturn, 1) := by decide +kernel
theorem dX0_readOrders_80 : decode cX0_readOrders 80 = .ok (.iload_n 3, 1) := by decide +kernel
theorem dX0_readOrders_81 : decode cX0_readOrders 81 = .ok (.iconst 1, 1) := by decide +kernel
theorem dX0_readOrders_82 : decode cX0_readOrders 82 = .ok (.iload 5, 2) := by decide +kernel
theorem dX0_readOrders_84 : decode cX0_readOrders 84 = .ok (.ishl, 1) := by decide +kernel
theorem dX0_readOrders_85 : decode cX0_readOrders 85 = .ok (.ior, 1) := by decide +kernel
theorem dX0_readOrders_86 : decode cX0_readOrders 86 = .ok (.istore_n 3, 1) := by decide +kernel
theorem dX0_readOrders_87 : decode cX0_readOrders 87 = .ok (.aload_n 0, 1) := by decide +kernel
theorem dX0_readOrders_88 : decode cX0_readOrders 88 = .ok (.dup, 1) := by decide +kernel
theorem dX0_readOrders_89 : decode cX0_readOrders 89 = .ok (.getfield 175, 3) := by decide +kernel
theorem dX0_readOrders_92 : decode cX0_readOrders 92 = .ok (.iconst 1, 1) := by decide +kernel
theorem dX0_readOrders_93 : decode cX0_readOrders 93 = .ok (.iadd, 1) := by decide +kernel
theorem dX0_readOrders_94 : decode cX0_readOrders 94 = .ok (.putfield 175, 3) := by decide +kernel
theorem dX0_readOrders_97 : decode cX0_readOrders 97 = .ok (.iinc 4 1, 3) := by decide +kernel
theorem dX0_readOrders_100 : decode cX0_readOrders 100 = .ok (.goto (-71), 3) := by decide +kernel
theorem dX0_readOrders_103 : decode cX0_readOrders 103 = .ok (.iconst 1, 1) := by decide +kernel
theorem dX0_readOrders_104 : decode cX0_readOrders 104 = .ok (.ireturn, 1) := by decide +kernel
theorem dX0_clearOrders_0 : decode cX0_clearOrders 0 = .ok (.iconst 0, 1) := by decide +kernel
theorem dX0_clearOrders_1 : decode cX0_clearOrders 1 = .ok (.istore_n 2, 1) := by decide +kernel
theorem dX0_clearOrders_2 : decode cX0_clearOrders 2 = .ok (.iload_n 2, 1) := by decide +kernel
theorem dX0_clearOrders_3 : decode cX0_clearOrders 3 = .ok (.aload_n 0, 1) := by decide +kernel
theorem dX0_clearOrders_4 : decode cX0_clearOrders 4 = .ok (.getfield 114, 3) := by decide +kernel
theorem dX0_clearOrders_7 : decode cX0_clearOrders 7 = .ok (.if_icmp .ge 27, 3) := by decide +kernel
theorem dX0_clearOrders_10 : decode cX0_clearOrders 10 = .ok (.aload_n 0, 1) := by decide +kernel
theorem dX0_clearOrders_11 : decode cX0_clearOrders 11 = .ok (.iload_n 2, 1) := by decide +kernel
theorem dX0_clearOrders_12 : decode cX0_clearOrders 12 = .ok (.iconst 0, 1) := by decide +kernel
theorem dX0_clearOrders_13 : decode cX0_clearOrders 13 = .ok (.invokevirtual 185, 3) := by decide +kernel
theorem dX0_clearOrders_16 : decode cX0_clearOrders 16 = .ok (.iload_n 1, 1) := by decide +kernel
theorem dX0_clearOrders_17 : decode cX0_clearOrders 17 = .ok (.if_icmp .ne 11, 3) := by decide +kernel
theorem dX0_clearOrders_20 : decode cX0_clearOrders 20 = .ok (.aload_n 0, 1) := by decide +kernel
theorem dX0_clearOrders_21 : decode cX0_clearOrders 21 = .ok (.getfield 188, 3) := by decide +kernel
theorem dX0_clearOrders_24 : decode cX0_clearOrders 24 = .ok (.iload_n 2, 1) := by decide +kernel
theorem dX0_clearOrders_25 : decode cX0_clearOrders 25 = .ok (.ldc 193, 2) := by decide +kernel
theorem dX0_clearOrders_27 : decode cX0_clearOrders 27 = .ok (.iastore, 1) := by decide +kernel
theorem dX0_clearOrders_28 : decode cX0_clearOrders 28 = .ok (.iinc 2 1, 3) := by decide +kernel
theorem dX0_clearOrders_31 : decode cX0_clearOrders 31 = .ok (.goto (-29), 3) := by decide +kernel
theorem dX0_clearOrders_34 : decode cX0_clearOrders 34 = .ok (.return_, 1) := by decide +kernel
theorem dX0_readNamed_0 : decode cX0_readNamed 0 = .ok (.aload_n 0, 1) := by decide +kernel
theorem dX0_readNamed_1 : decode cX0_readNamed 1 = .ok (.getfield 12, 3) := by decide +kernel
theorem dX0_readNamed_4 : decode cX0_readNamed 4 = .ok (.invokevirtual 194, 3) := by decide +kernel
theorem dX0_readNamed_7 : decode cX0_readNamed 7 = .ok (.ifCond .ne 5, 3) := by decide +kernel
theorem dX0_readNamed_10 : decode cX0_readNamed 10 = .ok (.iconst (-1), 1) := by decide +kernel
theorem dX0_readNamed_11 : decode cX0_readNamed 11 = .ok (.ireturn, 1) := by decide +kernel
theorem dX0_readNamed_12 : decode cX0_readNamed 12 = .ok (.aload_n 1, 1) := by decide +kernel
theorem dX0_readNamed_13 : decode cX0_readNamed 13 = .ok (.aload_n 0, 1) := by decide +kernel
theorem dX0_readNamed_14 : decode cX0_readNamed 14 = .ok (.getfield 12, 3) := by decide +kernel
theorem dX0_readNamed_17 : decode cX0_readNamed 17 = .ok (.getfield 127, 3) := by decide +kernel
theorem dX0_readNamed_20 : decode cX0_readNamed 20 = .ok (.invokevirtual 131, 3) := by decide +kernel
theorem dX0_readNamed_23 : decode cX0_readNamed 23 = .ok (.istore 4, 2) := by decide +kernel
theorem dX0_readNamed_25 : decode cX0_readNamed 25 = .ok (.iload 4, 2) := by decide +kernel
theorem dX0_readNamed_27 : decode cX0_readNamed 27 = .ok (.iconst (-1), 1) := by decide +kernel
theorem dX0_readNamed_28 : decode cX0_readNamed 28 = .ok (.if_icmp .eq 13, 3) := by decide +kernel
theorem dX0_readNamed_31 : decode cX0_readNamed 31 = .ok (.aload_n 1, 1) := by decide +kernel
theorem dX0_readNamed_32 : decode cX0_readNamed 32 = .ok (.iload_n 2, 1) := by decide +kernel
theorem dX0_readNamed_33 : decode cX0_readNamed 33 = .ok (.iload 4, 2) := by decide +kernel
theorem dX0_readNamed_35 : decode cX0_readNamed 35 = .ok (.invokevirtual 197, 3) := by decide +kernel
theorem dX0_readNamed_38 : decode cX0_readNamed 38 = .ok (.ifCond .ne 15, 3) := by decide +kernel
theorem dX0_readNamed_41 : decode cX0_readNamed 41 = .ok (.aload_n 0, 1) := by decide +kernel
theorem dX0_readNamed_42 : decode cX0_readNamed 42 = .ok (.getfield 12, 3) := by decide +kernel
theorem dX0_readNamed_45 : decode cX0_readNamed 45 = .ok (.bipush (-7), 2) := by decide +kernel
theorem dX0_readNamed_47 : decode cX0_readNamed 47 = .ok (.invokevirtual 89, 3) := by decide +kernel
theorem dX0_readNamed_50 : decode cX0_readNamed 50 = .ok (.pop, 1) := by decide +kernel
theorem dX0_readNamed_51 : decode cX0_readNamed 51 = .ok (.iconst (-1), 1) := by decide +kernel
theorem dX0_readNamed_52 : decode cX0_readNamed 52 = .ok (.ireturn, 1) := by decide +kernel
theorem dX0_readNamed_53 : decode cX0_readNamed 53 = .ok (.iload_n 3, 1) := by decide +kernel
theorem dX0_readNamed_54 : decode cX0_readNamed 54 = .ok (.iload 4, 2) := by decide +kernel
theorem dX0_readNamed_56 : decode cX0_readNamed 56 = .ok (.ishr, 1) := by decide +kernel
theorem dX0_readNamed_57 : decode cX0_readNamed 57 = .ok (.iconst 1, 1) := by decide +kernel
theorem dX0_readNamed_58 : decode cX0_readNamed 58 = .ok (.iand, 1) := by decide +kernel
theorem dX0_readNamed_59 : decode cX0_readNamed 59 = .ok (.ifCond .eq 15, 3) := by decide +kernel
theorem dX0_readNamed_62 : decode cX0_readNamed 62 = .ok (.aload_n 0, 1) := by decide +kernel
theorem dX0_readNamed_63 : decode cX0_readNamed 63 = .ok (.getfield 12, 3) := by decide +kernel
theorem dX0_readNamed_66 : decode cX0_readNamed 66 = .ok (.bipush (-4), 2) := by decide +kernel
theorem dX0_readNamed_68 : decode cX0_readNamed 68 = .ok (.invokevirtual 89, 3) := by decide +kernel
theorem dX0_readNamed_71 : decode cX0_readNamed 71 = .ok (.pop, 1) := by decide +kernel
theorem dX0_readNamed_72 : decode cX0_readNamed 72 = .ok (.iconst (-1), 1) := by decide +kernel
theorem dX0_readNamed_73 : decode cX0_readNamed 73 = .ok (.ireturn, 1) := by decide +kernel
theorem dX0_readNamed_74 : decode cX0_readNamed 74 = .ok (.iload 4, 2) := by decide +kernel
theorem dX0_readNamed_76 : decode cX0_readNamed 76 = .ok (.ireturn, 1) := by decide +kernel
theorem dX0_readLetters_0 : decode cX0_readLetters 0 = .ok (.aload_n 0, 1) := by decide +kernel
theorem dX0_readLetters_1 : decode cX0_readLetters 1 = .ok (.getfield 12, 3) := by decide +kernel
theorem dX0_readLetters_4 : decode cX0_readLetters 4 = .ok (.invokevirtual 47, 3) := by decide +kernel
theorem dX0_readLetters_7 : decode cX0_readLetters 7 = .ok (.aload_n 0, 1) := by decide +kernel
theorem dX0_readLetters_8 : decode cX0_readLetters 8 = .ok (.getfield 12, 3) := by decide +kernel
theorem dX0_readLetters_11 : decode cX0_readLetters 11 = .ok (.invokevirtual 153, 3) := by decide +kernel
theorem dX0_readLetters_14 : decode cX0_readLetters 14 = .ok (.ifCond .eq 13, 3) := by decide +kernel
theorem dX0_readLetters_17 : decode cX0_readLetters 17 = .ok (.aload_n 0, 1) := by decide +kernel
theorem dX0_readLetters_18 : decode cX0_readLetters 18 = .ok (.getfield 12, 3) := by decide +kernel
theorem dX0_readLetters_21 : decode cX0_readLetters 21 = .ok (.bipush (-2), 2) := by decide +kernel
theorem dX0_readLetters_23 : decode cX0_readLetters 23 = .ok (.invokevirtual 89, 3) := by decide +kernel
theorem dX0_readLetters_26 : decode cX0_readLetters 26 = .ok (.ireturn, 1) := by decide +kernel
theorem dX0_readLetters_27 : decode cX0_readLetters 27 = .ok (.aload_n 0, 1) := by decide +kernel
theorem dX0_readLetters_28 : decode cX0_readLetters 28 = .ok (.getfield 12, 3) := by decide +kernel
theorem dX0_readLetters_31 : decode cX0_readLetters 31 = .ok (.getfield 200, 3) := by decide +kernel
theorem dX0_readLetters_34 : decode cX0_readLetters 34 = .ok (.istore_n 3, 1) := by decide +kernel
theorem dX0_readLetters_35 : decode cX0_readLetters 35 = .ok (.iload_n 3, 1) := by decide +kernel
theorem dX0_readLetters_36 : decode cX0_readLetters 36 = .ok (.aload_n 0, 1) := by decide +kernel
theorem dX0_readLetters_37 : decode cX0_readLetters 37 = .ok (.getfield 12, 3) := by decide +kernel
theorem dX0_readLetters_40 : decode cX0_readLetters 40 = .ok (.getfield 203, 3) := by decide +kernel
theorem dX0_readLetters_43 : decode cX0_readLetters 43 = .ok (.if_icmp .ge 76, 3) := by decide +kernel
theorem dX0_readLetters_46 : decode cX0_readLetters 46 = .ok (.aload_n 0, 1) := by decide +kernel
theorem dX0_readLetters_47 : decode cX0_readLetters 47 = .ok (.getfield 12, 3) := by decide +kernel
theorem dX0_readLetters_50 : decode cX0_readLetters 50 = .ok (.iload_n 3, 1) := by decide +kernel
theorem dX0_readLetters_51 : decode cX0_readLetters 51 = .ok (.invokevirtual 206, 3) := by decide +kernel
theorem dX0_readLetters_54 : decode cX0_readLetters 54 = .ok (.invokestatic 209, 3) := by decide +kernel
theorem dX0_readLetters_57 : decode cX0_readLetters 57 = .ok (.istore 4, 2) := by decide +kernel
theorem dX0_readLetters_59 : decode cX0_readLetters 59 = .ok (.iload_n 3, 1) := by decide +kernel
theorem dX0_readLetters_60 : decode cX0_readLetters 60 = .ok (.aload_n 0, 1) := by decide +kernel
theorem dX0_readLetters_61 : decode cX0_readLetters 61 = .ok (.getfield 12, 3) := by decide +kernel
theorem dX0_readLetters_64 : decode cX0_readLetters 64 = .ok (.getfield 200, 3) := by decide +kernel
theorem dX0_readLetters_67 : decode cX0_readLetters 67 = .ok (.isub, 1) := by decide +kernel
theorem dX0_readLetters_68 : decode cX0_readLetters 68 = .ok (.istore 5, 2) := by decide +kernel
theorem dX0_readLetters_70 : decode cX0_readLetters 70 = .ok (.iload 4, 2) := by decide +kernel
theorem dX0_readLetters_72 : decode cX0_readLetters 72 = .ok (.iconst (-1), 1) := by decide +kernel
theorem dX0_readLetters_73 : decode cX0_readLetters 73 = .ok (.if_icmp .eq 10, 3) := by decide +kernel
theorem dX0_readLetters_76 : decode cX0_readLetters 76 = .ok (.iload 5, 2) := by decide +kernel
theorem dX0_readLetters_78 : decode cX0_readLetters 78 = .ok (.bipush 6, 2) := by decide +kernel
theorem dX0_readLetters_80 : decode cX0_readLetters 80 = .ok (.if_icmp .lt 14, 3) := by decide +kernel
theorem dX0_readLetters_83 : decode cX0_readLetters 83 = .ok (.aload_n 0, 1) := by decide +kernel
theorem dX0_readLetters_84 : decode cX0_readLetters 84 = .ok (.getfield 12, 3) := by decide +kernel
theorem dX0_readLetters_87 : decode cX0_readLetters 87 = .ok (.bipush (-3), 2) := by decide +kernel
theorem dX0_readLetters_89 : decode cX0_readLetters 89 = .ok (.iload_n 3, 1) := by decide +kernel
theorem dX0_readLetters_90 : decode cX0_readLetters 90 = .ok (.invokevirtual 212, 3) := by decide +kernel
theorem dX0_readLetters_93 : decode cX0_readLetters 93 = .ok (.ireturn, 1) := by decide +kernel
theorem dX0_readLetters_94 : decode cX0_readLetters 94 = .ok (.aload_n 1, 1) := by decide +kernel
theorem dX0_readLetters_95 : decode cX0_readLetters 95 = .ok (.getfield 188, 3) := by decide +kernel
theorem dX0_readLetters_98 : decode cX0_readLetters 98 = .ok (.iload_n 2, 1) := by decide +kernel
theorem dX0_readLetters_99 : decode cX0_readLetters 99 = .ok (.aload_n 1, 1) := by decide +kernel
theorem dX0_readLetters_100 : decode cX0_readLetters 100 = .ok (.getfield 188, 3) := by decide +kernel
theorem dX0_readLetters_103 : decode cX0_readLetters 103 = .ok (.iload_n 2, 1) := by decide +kernel
theorem dX0_readLetters_104 : decode cX0_readLetters 104 = .ok (.iaload, 1) := by decide +kernel
theorem dX0_readLetters_105 : decode cX0_readLetters 105 = .ok (.iload 5, 2) := by decide +kernel
theorem dX0_readLetters_107 : decode cX0_readLetters 107 = .ok (.iload 4, 2) := by decide +kernel
theorem dX0_readLetters_109 : decode cX0_readLetters 109 = .ok (.invokestatic 215, 3) := by decide +kernel
theorem dX0_readLetters_112 : decode cX0_readLetters 112 = .ok (.iastore, 1) := by decide +kernel
theorem dX0_readLetters_113 : decode cX0_readLetters 113 = .ok (.iinc 3 1, 3) := by decide +kernel
theorem dX0_readLetters_116 : decode cX0_readLetters 116 = .ok (.goto (-81), 3) := by decide +kernel
theorem dX0_readLetters_119 : decode cX0_readLetters 119 = .ok (.iconst 1, 1) := by decide +kernel
theorem dX0_readLetters_120 : decode cX0_readLetters 120 = .ok (.ireturn, 1) := by decide +kernel
theorem dX0_letterOf_0 : decode cX0_letterOf 0 = .ok (.iload_n 0, 1) := by decide +kernel
theorem dX0_letterOf_1 : decode cX0_letterOf 1 = .ok (.lookupswitch 51 #[(97, 43), (104, 49), (108, 45), (114, 47)], 43) := by decide +kernel
theorem dX0_letterOf_44 : decode cX0_letterOf 44 = .ok (.iconst 1, 1) := by decide +kernel
theorem dX0_letterOf_45 : decode cX0_letterOf 45 = .ok (.ireturn, 1) := by decide +kernel
theorem dX0_letterOf_46 : decode cX0_letterOf 46 = .ok (.iconst 2, 1) := by decide +kernel
theorem dX0_letterOf_47 : decode cX0_letterOf 47 = .ok (.ireturn, 1) := by decide +kernel
theorem dX0_letterOf_48 : decode cX0_letterOf 48 = .ok (.iconst 3, 1) := by decide +kernel
theorem dX0_letterOf_49 : decode cX0_letterOf 49 = .ok (.ireturn, 1) := by decide +kernel
theorem dX0_letterOf_50 : decode cX0_letterOf 50 = .ok (.iconst 4, 1) := by decide +kernel
theorem dX0_letterOf_51 : decode cX0_letterOf 51 = .ok (.ireturn, 1) := by decide +kernel
theorem dX0_letterOf_52 : decode cX0_letterOf 52 = .ok (.iconst (-1), 1) := by decide +kernel
theorem dX0_letterOf_53 : decode cX0_letterOf 53 = .ok (.ireturn, 1) := by decide +kernel
theorem dX1_init_0 : decode cX1_init 0 = .ok (.aload_n 0, 1) := by decide +kernel
theorem dX1_init_1 : decode cX1_init 1 = .ok (.invokespecial 3, 3) := by decide +kernel
theorem dX1_init_4 : decode cX1_init 4 = .ok (.aload_n 0, 1) := by decide +kernel
theorem dX1_init_5 : decode cX1_init 5 = .ok (.new 9, 3) := by decide +kernel
theorem dX1_init_8 : decode cX1_init 8 = .ok (.dup, 1) := by decide +kernel
theorem dX1_init_9 : decode cX1_init 9 = .ok (.bipush 8, 2) := by decide +kernel
theorem dX1_init_11 : decode cX1_init 11 = .ok (.invokespecial 11, 3) := by decide +kernel
theorem dX1_init_14 : decode cX1_init 14 = .ok (.putfield 14, 3) := by decide +kernel
theorem dX1_init_17 : decode cX1_init 17 = .ok (.return_, 1) := by decide +kernel
theorem dX1_keep_0 : decode cX1_keep 0 = .ok (.aload_n 0, 1) := by decide +kernel
theorem dX1_keep_1 : decode cX1_keep 1 = .ok (.getfield 14, 3) := by decide +kernel
theorem dX1_keep_4 : decode cX1_keep 4 = .ok (.aload_n 0, 1) := by decide +kernel
theorem dX1_keep_5 : decode cX1_keep 5 = .ok (.getfield 20, 3) := by decide +kernel
theorem dX1_keep_8 : decode cX1_keep 8 = .ok (.aload_n 1, 1) := by decide +kernel
theorem dX1_keep_9 : decode cX1_keep 9 = .ok (.invokevirtual 24, 3) := by decide +kernel
theorem dX1_keep_12 : decode cX1_keep 12 = .ok (.aload_n 0, 1) := by decide +kernel
theorem dX1_keep_13 : decode cX1_keep 13 = .ok (.aload_n 0, 1) := by decide +kernel
theorem dX1_keep_14 : decode cX1_keep 14 = .ok (.getfield 20, 3) := by decide +kernel
theorem dX1_keep_17 : decode cX1_keep 17 = .ok (.iconst 1, 1) := by decide +kernel
theorem dX1_keep_18 : decode cX1_keep 18 = .ok (.iadd, 1) := by decide +kernel
theorem dX1_keep_19 : decode cX1_keep 19 = .ok (.bipush 8, 2) := by decide +kernel
theorem dX1_keep_21 : decode cX1_keep 21 = .ok (.irem, 1) := by decide +kernel
theorem dX1_keep_22 : decode cX1_keep 22 = .ok (.putfield 20, 3) := by decide +kernel
theorem dX1_keep_25 : decode cX1_keep 25 = .ok (.aload_n 0, 1) := by decide +kernel
theorem dX1_keep_26 : decode cX1_keep 26 = .ok (.bipush 8, 2) := by decide +kernel
theorem dX1_keep_28 : decode cX1_keep 28 = .ok (.aload_n 0, 1) := by decide +kernel
theorem dX1_keep_29 : decode cX1_keep 29 = .ok (.getfield 28, 3) := by decide +kernel
theorem dX1_keep_32 : decode cX1_keep 32 = .ok (.iconst 1, 1) := by decide +kernel
theorem dX1_keep_33 : decode cX1_keep 33 = .ok (.iadd, 1) := by decide +kernel
theorem dX1_keep_34 : decode cX1_keep 34 = .ok (.invokestatic 31, 3) := by decide +kernel
theorem dX1_keep_37 : decode cX1_keep 37 = .ok (.putfield 28, 3) := by decide +kernel
theorem dX1_keep_40 : decode cX1_keep 40 = .ok (.return_, 1) := by decide +kernel
theorem dX1_bringBack_0 : decode cX1_bringBack 0 = .ok (.aload_n 0, 1) := by decide +kernel
theorem dX1_bringBack_1 : decode cX1_bringBack 1 = .ok (.aload_n 0, 1) := by decide +kernel
theorem dX1_bringBack_2 : decode cX1_bringBack 2 = .ok (.getfield 20, 3) := by decide +kernel
theorem dX1_bringBack_5 : decode cX1_bringBack 5 = .ok (.bipush 8, 2) := by decide +kernel
theorem dX1_bringBack_7 : decode cX1_bringBack 7 = .ok (.iadd, 1) := by decide +kernel
theorem dX1_bringBack_8 : decode cX1_bringBack 8 = .ok (.iconst 1, 1) := by decide +kernel
theorem dX1_bringBack_9 : decode cX1_bringBack 9 = .ok (.isub, 1) := by decide +kernel
theorem dX1_bringBack_10 : decode cX1_bringBack 10 = .ok (.bipush 8, 2) := by decide +kernel
theorem dX1_bringBack_12 : decode cX1_bringBack 12 = .ok (.irem, 1) := by decide +kernel
theorem dX1_bringBack_13 : decode cX1_bringBack 13 = .ok (.putfield 20, 3) := by decide +kernel
theorem dX1_bringBack_16 : decode cX1_bringBack 16 = .ok (.aload_n 0, 1) := by decide +kernel
theorem dX1_bringBack_17 : decode cX1_bringBack 17 = .ok (.getfield 14, 3) := by decide +kernel
theorem dX1_bringBack_20 : decode cX1_bringBack 20 = .ok (.aload_n 0, 1) := by decide +kernel
theorem dX1_bringBack_21 : decode cX1_bringBack 21 = .ok (.getfield 20, 3) := by decide +kernel
theorem dX1_bringBack_24 : decode cX1_bringBack 24 = .ok (.aload_n 1, 1) := by decide +kernel
theorem dX1_bringBack_25 : decode cX1_bringBack 25 = .ok (.invokevirtual 37, 3) := by decide +kernel
theorem dX1_bringBack_28 : decode cX1_bringBack 28 = .ok (.aload_n 0, 1) := by decide +kernel
theorem dX1_bringBack_29 : decode cX1_bringBack 29 = .ok (.dup, 1) := by decide +kernel
theorem dX1_bringBack_30 : decode cX1_bringBack 30 = .ok (.getfield 28, 3) := by decide +kernel
theorem dX1_bringBack_33 : decode cX1_bringBack 33 = .ok (.iconst 1, 1) := by decide +kernel
theorem dX1_bringBack_34 : decode cX1_bringBack 34 = .ok (.isub, 1) := by decide +kernel
theorem dX1_bringBack_35 : decode cX1_bringBack 35 = .ok (.putfield 28, 3) := by decide +kernel
theorem dX1_bringBack_38 : decode cX1_bringBack 38 = .ok (.return_, 1) := by decide +kernel
theorem dX2_letter_0 : decode cX2_letter 0 = .ok (.iload_n 0, 1) := by decide +kernel
theorem dX2_letter_1 : decode cX2_letter 1 = .ok (.iconst 3, 1) := by decide +kernel
theorem dX2_letter_2 : decode cX2_letter 2 = .ok (.iload_n 1, 1) := by decide +kernel
theorem dX2_letter_3 : decode cX2_letter 3 = .ok (.imul, 1) := by decide +kernel
theorem dX2_letter_4 : decode cX2_letter 4 = .ok (.ishr, 1) := by decide +kernel
theorem dX2_letter_5 : decode cX2_letter 5 = .ok (.bipush 7, 2) := by decide +kernel
theorem dX2_letter_7 : decode cX2_letter 7 = .ok (.iand, 1) := by decide +kernel
theorem dX2_letter_8 : decode cX2_letter 8 = .ok (.ireturn, 1) := by decide +kernel
theorem dX2_with_0 : decode cX2_with 0 = .ok (.iload_n 0, 1) := by decide +kernel
theorem dX2_with_1 : decode cX2_with 1 = .ok (.bipush 7, 2) := by decide +kernel
theorem dX2_with_3 : decode cX2_with 3 = .ok (.iconst 3, 1) := by decide +kernel
theorem dX2_with_4 : decode cX2_with 4 = .ok (.iload_n 1, 1) := by decide +kernel
theorem dX2_with_5 : decode cX2_with 5 = .ok (.imul, 1) := by decide +kernel
theorem dX2_with_6 : decode cX2_with 6 = .ok (.ishl, 1) := by decide +kernel
theorem dX2_with_7 : decode cX2_with 7 = .ok (.iconst (-1), 1) := by decide +kernel
theorem dX2_with_8 : decode cX2_with 8 = .ok (.ixor, 1) := by decide +kernel
theorem dX2_with_9 : decode cX2_with 9 = .ok (.iand, 1) := by decide +kernel
theorem dX2_with_10 : decode cX2_with 10 = .ok (.iload_n 2, 1) := by decide +kernel
theorem dX2_with_11 : decode cX2_with 11 = .ok (.iconst 3, 1) := by decide +kernel
theorem dX2_with_12 : decode cX2_with 12 = .ok (.iload_n 1, 1) := by decide +kernel
theorem dX2_with_13 : decode cX2_with 13 = .ok (.imul, 1) := by decide +kernel
theorem dX2_with_14 : decode cX2_with 14 = .ok (.ishl, 1) := by decide +kernel
theorem dX2_with_15 : decode cX2_with 15 = .ok (.ior, 1) := by decide +kernel
theorem dX2_with_16 : decode cX2_with 16 = .ok (.ireturn, 1) := by decide +kernel
theorem dX3_init_0 : decode cX3_init 0 = .ok (.aload_n 0, 1) := by decide +kernel
theorem dX3_init_1 : decode cX3_init 1 = .ok (.invokespecial 3, 3) := by decide +kernel
theorem dX3_init_4 : decode cX3_init 4 = .ok (.aload_n 0, 1) := by decide +kernel
theorem dX3_init_5 : decode cX3_init 5 = .ok (.bipush 12, 2) := by decide +kernel
theorem dX3_init_7 : decode cX3_init 7 = .ok (.newarray .long, 2) := by decide +kernel
theorem dX3_init_9 : decode cX3_init 9 = .ok (.putfield 9, 3) := by decide +kernel
theorem dX3_init_12 : decode cX3_init 12 = .ok (.aload_n 0, 1) := by decide +kernel
theorem dX3_init_13 : decode cX3_init 13 = .ok (.sipush 132, 3) := by decide +kernel
theorem dX3_init_16 : decode cX3_init 16 = .ok (.newarray .int, 2) := by decide +kernel
theorem dX3_init_18 : decode cX3_init 18 = .ok (.putfield 15, 3) := by decide +kernel
theorem dX3_init_21 : decode cX3_init 21 = .ok (.aload_n 0, 1) := by decide +kernel
theorem dX3_init_22 : decode cX3_init 22 = .ok (.bipush 12, 2) := by decide +kernel
theorem dX3_init_24 : decode cX3_init 24 = .ok (.newarray .int, 2) := by decide +kernel
theorem dX3_init_26 : decode cX3_init 26 = .ok (.putfield 19, 3) := by decide +kernel
theorem dX3_init_29 : decode cX3_init 29 = .ok (.aload_n 0, 1) := by decide +kernel
theorem dX3_init_30 : decode cX3_init 30 = .ok (.bipush 24, 2) := by decide +kernel
theorem dX3_init_32 : decode cX3_init 32 = .ok (.newarray .int, 2) := by decide +kernel
theorem dX3_init_34 : decode cX3_init 34 = .ok (.putfield 22, 3) := by decide +kernel
theorem dX3_init_37 : decode cX3_init 37 = .ok (.aload_n 0, 1) := by decide +kernel
theorem dX3_init_38 : decode cX3_init 38 = .ok (.sipush 150, 3) := by decide +kernel
theorem dX3_init_41 : decode cX3_init 41 = .ok (.newarray .int, 2) := by decide +kernel
theorem dX3_init_43 : decode cX3_init 43 = .ok (.putfield 25, 3) := by decide +kernel
theorem dX3_init_46 : decode cX3_init 46 = .ok (.aload_n 0, 1) := by decide +kernel
theorem dX3_init_47 : decode cX3_init 47 = .ok (.iconst 4, 1) := by decide +kernel
theorem dX3_init_48 : decode cX3_init 48 = .ok (.newarray .int, 2) := by decide +kernel
theorem dX3_init_50 : decode cX3_init 50 = .ok (.putfield 28, 3) := by decide +kernel
theorem dX3_init_53 : decode cX3_init 53 = .ok (.aload_n 0, 1) := by decide +kernel
theorem dX3_init_54 : decode cX3_init 54 = .ok (.iconst 4, 1) := by decide +kernel
theorem dX3_init_55 : decode cX3_init 55 = .ok (.newarray .int, 2) := by decide +kernel
theorem dX3_init_57 : decode cX3_init 57 = .ok (.putfield 31, 3) := by decide +kernel
theorem dX3_init_60 : decode cX3_init 60 = .ok (.aload_n 0, 1) := by decide +kernel
theorem dX3_init_61 : decode cX3_init 61 = .ok (.bipush 120, 2) := by decide +kernel
theorem dX3_init_63 : decode cX3_init 63 = .ok (.newarray .int, 2) := by decide +kernel
theorem dX3_init_65 : decode cX3_init 65 = .ok (.putfield 34, 3) := by decide +kernel
theorem dX3_init_68 : decode cX3_init 68 = .ok (.aload_n 0, 1) := by decide +kernel
theorem dX3_init_69 : decode cX3_init 69 = .ok (.bipush 40, 2) := by decide +kernel
theorem dX3_init_71 : decode cX3_init 71 = .ok (.newarray .int, 2) := by decide +kernel
theorem dX3_init_73 : decode cX3_init 73 = .ok (.putfield 37, 3) := by decide +kernel
theorem dX3_init_76 : decode cX3_init 76 = .ok (.return_, 1) := by decide +kernel
theorem dX3_clear_0 : decode cX3_clear 0 = .ok (.aload_n 0, 1) := by decide +kernel
theorem dX3_clear_1 : decode cX3_clear 1 = .ok (.iconst 0, 1) := by decide +kernel
theorem dX3_clear_2 : decode cX3_clear 2 = .ok (.putfield 40, 3) := by decide +kernel
theorem dX3_clear_5 : decode cX3_clear 5 = .ok (.aload_n 0, 1) := by decide +kernel
theorem dX3_clear_6 : decode cX3_clear 6 = .ok (.iconst 0, 1) := by decide +kernel
theorem dX3_clear_7 : decode cX3_clear 7 = .ok (.putfield 44, 3) := by decide +kernel
theorem dX3_clear_10 : decode cX3_clear 10 = .ok (.aload_n 0, 1) := by decide +kernel
theorem dX3_clear_11 : decode cX3_clear 11 = .ok (.iconst 0, 1) := by decide +kernel
theorem dX3_clear_12 : decode cX3_clear 12 = .ok (.putfield 47, 3) := by decide +kernel
theorem dX3_clear_15 : decode cX3_clear 15 = .ok (.aload_n 0, 1) := by decide +kernel
theorem dX3_clear_16 : decode cX3_clear 16 = .ok (.iconst 0, 1) := by decide +kernel
theorem dX3_clear_17 : decode cX3_clear 17 = .ok (.putfield 50, 3) := by decide +kernel
theorem dX3_clear_20 : decode cX3_clear 20 = .ok (.aload_n 0, 1) := by decide +kernel
theorem dX3_clear_21 : decode cX3_clear 21 = .ok (.iconst 0, 1) := by decide +kernel
theorem dX3_clear_22 : decode cX3_clear 22 = .ok (.putfield 53, 3) := by decide +kernel
theorem dX3_clear_25 : decode cX3_clear 25 = .ok (.aload_n 0, 1) := by decide +kernel
theorem dX3_clear_26 : decode cX3_clear 26 = .ok (.iconst 0, 1) := by decide +kernel
theorem dX3_clear_27 : decode cX3_clear 27 = .ok (.putfield 56, 3) := by decide +kernel
theorem dX3_clear_30 : decode cX3_clear 30 = .ok (.aload_n 0, 1) := by decide +kernel
theorem dX3_clear_31 : decode cX3_clear 31 = .ok (.iconst 5, 1) := by decide +kernel
theorem dX3_clear_32 : decode cX3_clear 32 = .ok (.putfield 59, 3) := by decide +kernel
theorem dX3_clear_35 : decode cX3_clear 35 = .ok (.aload_n 0, 1) := by decide +kernel
theorem dX3_clear_36 : decode cX3_clear 36 = .ok (.iconst 0, 1) := by decide +kernel
theorem dX3_clear_37 : decode cX3_clear 37 = .ok (.putfield 62, 3) := by decide +kernel
theorem dX3_clear_40 : decode cX3_clear 40 = .ok (.aload_n 0, 1) := by decide +kernel
theorem dX3_clear_41 : decode cX3_clear 41 = .ok (.iconst 0, 1) := by decide +kernel
theorem dX3_clear_42 : decode cX3_clear 42 = .ok (.putfield 65, 3) := by decide +kernel
theorem dX3_clear_45 : decode cX3_clear 45 = .ok (.aload_n 0, 1) := by decide +kernel
theorem dX3_clear_46 : decode cX3_clear 46 = .ok (.getfield 28, 3) := by decide +kernel
theorem dX3_clear_49 : decode cX3_clear 49 = .ok (.iconst 0, 1) := by decide +kernel
theorem dX3_clear_50 : decode cX3_clear 50 = .ok (.invokestatic 68, 3) := by decide +kernel
theorem dX3_clear_53 : decode cX3_clear 53 = .ok (.aload_n 0, 1) := by decide +kernel
theorem dX3_clear_54 : decode cX3_clear 54 = .ok (.invokevirtual 74, 3) := by decide +kernel
theorem dX3_clear_57 : decode cX3_clear 57 = .ok (.return_, 1) := by decide +kernel
theorem dX3_beginTurn_0 : decode cX3_beginTurn 0 = .ok (.aload_n 0, 1) := by decide +kernel
theorem dX3_beginTurn_1 : decode cX3_beginTurn 1 = .ok (.getfield 19, 3) := by decide +kernel
theorem dX3_beginTurn_4 : decode cX3_beginTurn 4 = .ok (.ldc 79, 2) := by decide +kernel
theorem dX3_beginTurn_6 : decode cX3_beginTurn 6 = .ok (.invokestatic 68, 3) := by decide +kernel
theorem dX3_beginTurn_9 : decode cX3_beginTurn 9 = .ok (.aload_n 0, 1) := by decide +kernel
theorem dX3_beginTurn_10 : decode cX3_beginTurn 10 = .ok (.getfield 31, 3) := by decide +kernel
theorem dX3_beginTurn_13 : decode cX3_beginTurn 13 = .ok (.iconst (-1), 1) := by decide +kernel
theorem dX3_beginTurn_14 : decode cX3_beginTurn 14 = .ok (.invokestatic 68, 3) := by decide +kernel
theorem dX3_beginTurn_17 : decode cX3_beginTurn 17 = .ok (.return_, 1) := by decide +kernel
theorem dX3_copyFrom_0 : decode cX3_copyFrom 0 = .ok (.aload_n 0, 1) := by decide +kernel
theorem dX3_copyFrom_1 : decode cX3_copyFrom 1 = .ok (.aload_n 1, 1) := by decide +kernel
theorem dX3_copyFrom_2 : decode cX3_copyFrom 2 = .ok (.getfield 40, 3) := by decide +kernel
theorem dX3_copyFrom_5 : decode cX3_copyFrom 5 = .ok (.putfield 40, 3) := by decide +kernel
theorem dX3_copyFrom_8 : decode cX3_copyFrom 8 = .ok (.aload_n 0, 1) := by decide +kernel
theorem dX3_copyFrom_9 : decode cX3_copyFrom 9 = .ok (.aload_n 1, 1) := by decide +kernel
theorem dX3_copyFrom_10 : decode cX3_copyFrom 10 = .ok (.getfield 44, 3) := by decide +kernel
theorem dX3_copyFrom_13 : decode cX3_copyFrom 13 = .ok (.putfield 44, 3) := by decide +kernel
theorem dX3_copyFrom_16 : decode cX3_copyFrom 16 = .ok (.aload_n 0, 1) := by decide +kernel
theorem dX3_copyFrom_17 : decode cX3_copyFrom 17 = .ok (.aload_n 1, 1) := by decide +kernel
theorem dX3_copyFrom_18 : decode cX3_copyFrom 18 = .ok (.getfield 47, 3) := by decide +kernel
theorem dX3_copyFrom_21 : decode cX3_copyFrom 21 = .ok (.putfield 47, 3) := by decide +kernel
theorem dX3_copyFrom_24 : decode cX3_copyFrom 24 = .ok (.aload_n 0, 1) := by decide +kernel
theorem dX3_copyFrom_25 : decode cX3_copyFrom 25 = .ok (.aload_n 1, 1) := by decide +kernel
theorem dX3_copyFrom_26 : decode cX3_copyFrom 26 = .ok (.getfield 50, 3) := by decide +kernel
theorem dX3_copyFrom_29 : decode cX3_copyFrom 29 = .ok (.putfield 50, 3) := by decide +kernel
theorem dX3_copyFrom_32 : decode cX3_copyFrom 32 = .ok (.aload_n 0, 1) := by decide +kernel
theorem dX3_copyFrom_33 : decode cX3_copyFrom 33 = .ok (.aload_n 1, 1) := by decide +kernel
theorem dX3_copyFrom_34 : decode cX3_copyFrom 34 = .ok (.getfield 53, 3) := by decide +kernel
theorem dX3_copyFrom_37 : decode cX3_copyFrom 37 = .ok (.putfield 53, 3) := by decide +kernel
theorem dX3_copyFrom_40 : decode cX3_copyFrom 40 = .ok (.aload_n 0, 1) := by decide +kernel
theorem dX3_copyFrom_41 : decode cX3_copyFrom 41 = .ok (.aload_n 1, 1) := by decide +kernel
theorem dX3_copyFrom_42 : decode cX3_copyFrom 42 = .ok (.getfield 56, 3) := by decide +kernel
theorem dX3_copyFrom_45 : decode cX3_copyFrom 45 = .ok (.putfield 56, 3) := by decide +kernel
theorem dX3_copyFrom_48 : decode cX3_copyFrom 48 = .ok (.aload_n 0, 1) := by decide +kernel
theorem dX3_copyFrom_49 : decode cX3_copyFrom 49 = .ok (.aload_n 1, 1) := by decide +kernel
theorem dX3_copyFrom_50 : decode cX3_copyFrom 50 = .ok (.getfield 59, 3) := by decide +kernel
theorem dX3_copyFrom_53 : decode cX3_copyFrom 53 = .ok (.putfield 59, 3) := by decide +kernel
theorem dX3_copyFrom_56 : decode cX3_copyFrom 56 = .ok (.aload_n 0, 1) := by decide +kernel
theorem dX3_copyFrom_57 : decode cX3_copyFrom 57 = .ok (.aload_n 1, 1) := by decide +kernel
theorem dX3_copyFrom_58 : decode cX3_copyFrom 58 = .ok (.getfield 62, 3) := by decide +kernel
theorem dX3_copyFrom_61 : decode cX3_copyFrom 61 = .ok (.putfield 62, 3) := by decide +kernel
theorem dX3_copyFrom_64 : decode cX3_copyFrom 64 = .ok (.aload_n 0, 1) := by decide +kernel
theorem dX3_copyFrom_65 : decode cX3_copyFrom 65 = .ok (.aload_n 1, 1) := by decide +kernel
theorem dX3_copyFrom_66 : decode cX3_copyFrom 66 = .ok (.getfield 65, 3) := by decide +kernel
theorem dX3_copyFrom_69 : decode cX3_copyFrom 69 = .ok (.putfield 65, 3) := by decide +kernel
theorem dX3_copyFrom_72 : decode cX3_copyFrom 72 = .ok (.aload_n 1, 1) := by decide +kernel
theorem dX3_copyFrom_73 : decode cX3_copyFrom 73 = .ok (.getfield 9, 3) := by decide +kernel
theorem dX3_copyFrom_76 : decode cX3_copyFrom 76 = .ok (.iconst 0, 1) := by decide +kernel
theorem dX3_copyFrom_77 : decode cX3_copyFrom 77 = .ok (.aload_n 0, 1) := by decide +kernel
theorem dX3_copyFrom_78 : decode cX3_copyFrom 78 = .ok (.getfield 9, 3) := by decide +kernel
theorem dX3_copyFrom_81 : decode cX3_copyFrom 81 = .ok (.iconst 0, 1) := by decide +kernel
theorem dX3_copyFrom_82 : decode cX3_copyFrom 82 = .ok (.aload_n 0, 1) := by decide +kernel
theorem dX3_copyFrom_83 : decode cX3_copyFrom 83 = .ok (.getfield 9, 3) := by decide +kernel
theorem dX3_copyFrom_86 : decode cX3_copyFrom 86 = .ok (.arraylength, 1) := by decide +kernel
theorem dX3_copyFrom_87 : decode cX3_copyFrom 87 = .ok (.invokestatic 80, 3) := by decide +kernel
theorem dX3_copyFrom_90 : decode cX3_copyFrom 90 = .ok (.aload_n 1, 1) := by decide +kernel
theorem dX3_copyFrom_91 : decode cX3_copyFrom 91 = .ok (.getfield 15, 3) := by decide +kernel
theorem dX3_copyFrom_94 : decode cX3_copyFrom 94 = .ok (.aload_n 0, 1) := by decide +kernel
theorem dX3_copyFrom_95 : decode cX3_copyFrom 95 = .ok (.getfield 15, 3) := by decide +kernel
theorem dX3_copyFrom_98 : decode cX3_copyFrom 98 = .ok (.invokestatic 86, 3) := by decide +kernel
theorem dX3_copyFrom_101 : decode cX3_copyFrom 101 = .ok (.aload_n 1, 1) := by decide +kernel
theorem dX3_copyFrom_102 : decode cX3_copyFrom 102 = .ok (.getfield 19, 3) := by decide +kernel
theorem dX3_copyFrom_105 : decode cX3_copyFrom 105 = .ok (.aload_n 0, 1) := by decide +kernel
theorem dX3_copyFrom_106 : decode cX3_copyFrom 106 = .ok (.getfield 19, 3) := by decide +kernel
theorem dX3_copyFrom_109 : decode cX3_copyFrom 109 = .ok (.invokestatic 86, 3) := by decide +kernel
theorem dX3_copyFrom_112 : decode cX3_copyFrom 112 = .ok (.aload_n 1, 1) := by decide +kernel
theorem dX3_copyFrom_113 : decode cX3_copyFrom 113 = .ok (.getfield 22, 3) := by decide +kernel
theorem dX3_copyFrom_116 : decode cX3_copyFrom 116 = .ok (.aload_n 0, 1) := by decide +kernel
theorem dX3_copyFrom_117 : decode cX3_copyFrom 117 = .ok (.getfield 22, 3) := by decide +kernel
theorem dX3_copyFrom_120 : decode cX3_copyFrom 120 = .ok (.invokestatic 86, 3) := by decide +kernel
theorem dX3_copyFrom_123 : decode cX3_copyFrom 123 = .ok (.aload_n 1, 1) := by decide +kernel
theorem dX3_copyFrom_124 : decode cX3_copyFrom 124 = .ok (.getfield 25, 3) := by decide +kernel
theorem dX3_copyFrom_127 : decode cX3_copyFrom 127 = .ok (.aload_n 0, 1) := by decide +kernel
theorem dX3_copyFrom_128 : decode cX3_copyFrom 128 = .ok (.getfield 25, 3) := by decide +kernel
theorem dX3_copyFrom_131 : decode cX3_copyFrom 131 = .ok (.invokestatic 86, 3) := by decide +kernel
theorem dX3_copyFrom_134 : decode cX3_copyFrom 134 = .ok (.aload_n 1, 1) := by decide +kernel
theorem dX3_copyFrom_135 : decode cX3_copyFrom 135 = .ok (.getfield 28, 3) := by decide +kernel
theorem dX3_copyFrom_138 : decode cX3_copyFrom 138 = .ok (.aload_n 0, 1) := by decide +kernel
theorem dX3_copyFrom_139 : decode cX3_copyFrom 139 = .ok (.getfield 28, 3) := by decide +kernel
theorem dX3_copyFrom_142 : decode cX3_copyFrom 142 = .ok (.invokestatic 86, 3) := by decide +kernel
theorem dX3_copyFrom_145 : decode cX3_copyFrom 145 = .ok (.aload_n 1, 1) := by decide +kernel
theorem dX3_copyFrom_146 : decode cX3_copyFrom 146 = .ok (.getfield 31, 3) := by decide +kernel
theorem dX3_copyFrom_149 : decode cX3_copyFrom 149 = .ok (.aload_n 0, 1) := by decide +kernel
theorem dX3_copyFrom_150 : decode cX3_copyFrom 150 = .ok (.getfield 31, 3) := by decide +kernel
theorem dX3_copyFrom_153 : decode cX3_copyFrom 153 = .ok (.invokestatic 86, 3) := by decide +kernel
theorem dX3_copyFrom_156 : decode cX3_copyFrom 156 = .ok (.aload_n 1, 1) := by decide +kernel
theorem dX3_copyFrom_157 : decode cX3_copyFrom 157 = .ok (.getfield 34, 3) := by decide +kernel
theorem dX3_copyFrom_160 : decode cX3_copyFrom 160 = .ok (.aload_n 0, 1) := by decide +kernel
theorem dX3_copyFrom_161 : decode cX3_copyFrom 161 = .ok (.getfield 34, 3) := by decide +kernel
theorem dX3_copyFrom_164 : decode cX3_copyFrom 164 = .ok (.invokestatic 86, 3) := by decide +kernel
theorem dX3_copyFrom_167 : decode cX3_copyFrom 167 = .ok (.aload_n 1, 1) := by decide +kernel
theorem dX3_copyFrom_168 : decode cX3_copyFrom 168 = .ok (.getfield 37, 3) := by decide +kernel
theorem dX3_copyFrom_171 : decode cX3_copyFrom 171 = .ok (.aload_n 0, 1) := by decide +kernel
theorem dX3_copyFrom_172 : decode cX3_copyFrom 172 = .ok (.getfield 37, 3) := by decide +kernel
theorem dX3_copyFrom_175 : decode cX3_copyFrom 175 = .ok (.invokestatic 86, 3) := by decide +kernel
theorem dX3_copyFrom_178 : decode cX3_copyFrom 178 = .ok (.return_, 1) := by decide +kernel
theorem dX3_copyRow_0 : decode cX3_copyRow 0 = .ok (.aload_n 0, 1) := by decide +kernel
theorem dX3_copyRow_1 : decode cX3_copyRow 1 = .ok (.iconst 0, 1) := by decide +kernel
theorem dX3_copyRow_2 : decode cX3_copyRow 2 = .ok (.aload_n 1, 1) := by decide +kernel
theorem dX3_copyRow_3 : decode cX3_copyRow 3 = .ok (.iconst 0, 1) := by decide +kernel
theorem dX3_copyRow_4 : decode cX3_copyRow 4 = .ok (.aload_n 0, 1) := by decide +kernel
theorem dX3_copyRow_5 : decode cX3_copyRow 5 = .ok (.arraylength, 1) := by decide +kernel
theorem dX3_copyRow_6 : decode cX3_copyRow 6 = .ok (.aload_n 1, 1) := by decide +kernel
theorem dX3_copyRow_7 : decode cX3_copyRow 7 = .ok (.arraylength, 1) := by decide +kernel
theorem dX3_copyRow_8 : decode cX3_copyRow 8 = .ok (.invokestatic 90, 3) := by decide +kernel
theorem dX3_copyRow_11 : decode cX3_copyRow 11 = .ok (.invokestatic 80, 3) := by decide +kernel
theorem dX3_copyRow_14 : decode cX3_copyRow 14 = .ok (.return_, 1) := by decide +kernel
theorem dX3_get_0 : decode cX3_get 0 = .ok (.aload_n 0, 1) := by decide +kernel
theorem dX3_get_1 : decode cX3_get 1 = .ok (.getfield 15, 3) := by decide +kernel
theorem dX3_get_4 : decode cX3_get 4 = .ok (.iload_n 1, 1) := by decide +kernel
theorem dX3_get_5 : decode cX3_get 5 = .ok (.bipush 11, 2) := by decide +kernel
theorem dX3_get_7 : decode cX3_get 7 = .ok (.imul, 1) := by decide +kernel
theorem dX3_get_8 : decode cX3_get 8 = .ok (.iload_n 2, 1) := by decide +kernel
theorem dX3_get_9 : decode cX3_get 9 = .ok (.iadd, 1) := by decide +kernel
theorem dX3_get_10 : decode cX3_get 10 = .ok (.iaload, 1) := by decide +kernel
theorem dX3_get_11 : decode cX3_get 11 = .ok (.ireturn, 1) := by decide +kernel
theorem dX3_set_0 : decode cX3_set 0 = .ok (.aload_n 0, 1) := by decide +kernel
theorem dX3_set_1 : decode cX3_set 1 = .ok (.getfield 15, 3) := by decide +kernel
theorem dX3_set_4 : decode cX3_set 4 = .ok (.iload_n 1, 1) := by decide +kernel
theorem dX3_set_5 : decode cX3_set 5 = .ok (.bipush 11, 2) := by decide +kernel
theorem dX3_set_7 : decode cX3_set 7 = .ok (.imul, 1) := by decide +kernel
theorem dX3_set_8 : decode cX3_set 8 = .ok (.iload_n 2, 1) := by decide +kernel
theorem dX3_set_9 : decode cX3_set 9 = .ok (.iadd, 1) := by decide +kernel
theorem dX3_set_10 : decode cX3_set 10 = .ok (.iload_n 3, 1) := by decide +kernel
theorem dX3_set_11 : decode cX3_set 11 = .ok (.iastore, 1) := by decide +kernel
theorem dX3_set_12 : decode cX3_set 12 = .ok (.return_, 1) := by decide +kernel
theorem dX3_setShip_0 : decode cX3_setShip 0 = .ok (.aload_n 0, 1) := by decide +kernel
theorem dX3_setShip_1 : decode cX3_setShip 1 = .ok (.getfield 9, 3) := by decide +kernel
theorem dX3_setShip_4 : decode cX3_setShip 4 = .ok (.iload_n 1, 1) := by decide +kernel
theorem dX3_setShip_5 : decode cX3_setShip 5 = .ok (.lload_n 3, 1) := by decide +kernel
theorem dX3_setShip_6 : decode cX3_setShip 6 = .ok (.lastore, 1) := by decide +kernel
theorem dX3_setShip_7 : decode cX3_setShip 7 = .ok (.aload_n 0, 1) := by decide +kernel
theorem dX3_setShip_8 : decode cX3_setShip 8 = .ok (.iload_n 1, 1) := by decide +kernel
theorem dX3_setShip_9 : decode cX3_setShip 9 = .ok (.iconst 0, 1) := by decide +kernel
theorem dX3_setShip_10 : decode cX3_setShip 10 = .ok (.iload_n 2, 1) := by decide +kernel
theorem dX3_setShip_11 : decode cX3_setShip 11 = .ok (.invokevirtual 96, 3) := by decide +kernel
theorem dX3_setShip_14 : decode cX3_setShip 14 = .ok (.aload_n 0, 1) := by decide +kernel
theorem dX3_setShip_15 : decode cX3_setShip 15 = .ok (.iload_n 1, 1) := by decide +kernel
theorem dX3_setShip_16 : decode cX3_setShip 16 = .ok (.iconst 4, 1) := by decide +kernel
theorem dX3_setShip_17 : decode cX3_setShip 17 = .ok (.bipush 20, 2) := by decide +kernel
theorem dX3_setShip_19 : decode cX3_setShip 19 = .ok (.invokevirtual 96, 3) := by decide +kernel
theorem dX3_setShip_22 : decode cX3_setShip 22 = .ok (.aload_n 0, 1) := by decide +kernel
theorem dX3_setShip_23 : decode cX3_setShip 23 = .ok (.iload_n 1, 1) := by decide +kernel
theorem dX3_setShip_24 : decode cX3_setShip 24 = .ok (.iconst 5, 1) := by decide +kernel
theorem dX3_setShip_25 : decode cX3_setShip 25 = .ok (.iconst 3, 1) := by decide +kernel
theorem dX3_setShip_26 : decode cX3_setShip 26 = .ok (.invokevirtual 96, 3) := by decide +kernel
theorem dX3_setShip_29 : decode cX3_setShip 29 = .ok (.aload_n 0, 1) := by decide +kernel
theorem dX3_setShip_30 : decode cX3_setShip 30 = .ok (.iload_n 1, 1) := by decide +kernel
theorem dX3_setShip_31 : decode cX3_setShip 31 = .ok (.bipush 6, 2) := by decide +kernel
theorem dX3_setShip_33 : decode cX3_setShip 33 = .ok (.iconst 5, 1) := by decide +kernel
theorem dX3_setShip_34 : decode cX3_setShip 34 = .ok (.invokevirtual 96, 3) := by decide +kernel
theorem dX3_setShip_37 : decode cX3_setShip 37 = .ok (.aload_n 0, 1) := by decide +kernel
theorem dX3_setShip_38 : decode cX3_setShip 38 = .ok (.iload_n 1, 1) := by decide +kernel
theorem dX3_setShip_39 : decode cX3_setShip 39 = .ok (.bipush 7, 2) := by decide +kernel
theorem dX3_setShip_41 : decode cX3_setShip 41 = .ok (.iconst 1, 1) := by decide +kernel
theorem dX3_setShip_42 : decode cX3_setShip 42 = .ok (.invokevirtual 96, 3) := by decide +kernel
theorem dX3_setShip_45 : decode cX3_setShip 45 = .ok (.aload_n 0, 1) := by decide +kernel
theorem dX3_setShip_46 : decode cX3_setShip 46 = .ok (.iload_n 1, 1) := by decide +kernel
theorem dX3_setShip_47 : decode cX3_setShip 47 = .ok (.bipush 8, 2) := by decide +kernel
theorem dX3_setShip_49 : decode cX3_setShip 49 = .ok (.iconst 0, 1) := by decide +kernel
theorem dX3_setShip_50 : decode cX3_setShip 50 = .ok (.invokevirtual 96, 3) := by decide +kernel
theorem dX3_setShip_53 : decode cX3_setShip 53 = .ok (.aload_n 0, 1) := by decide +kernel
theorem dX3_setShip_54 : decode cX3_setShip 54 = .ok (.iload_n 1, 1) := by decide +kernel
theorem dX3_setShip_55 : decode cX3_setShip 55 = .ok (.bipush 9, 2) := by decide +kernel
theorem dX3_setShip_57 : decode cX3_setShip 57 = .ok (.iconst 4, 1) := by decide +kernel
theorem dX3_setShip_58 : decode cX3_setShip 58 = .ok (.invokevirtual 96, 3) := by decide +kernel
theorem dX3_setShip_61 : decode cX3_setShip 61 = .ok (.aload_n 0, 1) := by decide +kernel
theorem dX3_setShip_62 : decode cX3_setShip 62 = .ok (.iload_n 1, 1) := by decide +kernel
theorem dX3_setShip_63 : decode cX3_setShip 63 = .ok (.bipush 10, 2) := by decide +kernel
theorem dX3_setShip_65 : decode cX3_setShip 65 = .ok (.iconst (-1), 1) := by decide +kernel
theorem dX3_setShip_66 : decode cX3_setShip 66 = .ok (.invokevirtual 96, 3) := by decide +kernel
theorem dX3_setShip_69 : decode cX3_setShip 69 = .ok (.return_, 1) := by decide +kernel
theorem dX3_floats_0 : decode cX3_floats 0 = .ok (.aload_n 0, 1) := by decide +kernel
theorem dX3_floats_1 : decode cX3_floats 1 = .ok (.iload_n 1, 1) := by decide +kernel
theorem dX3_floats_2 : decode cX3_floats 2 = .ok (.iconst 1, 1) := by decide +kernel
theorem dX3_floats_3 : decode cX3_floats 3 = .ok (.invokevirtual 100, 3) := by decide +kernel
theorem dX3_floats_6 : decode cX3_floats 6 = .ok (.iconst (-1), 1) := by decide +kernel
theorem dX3_floats_7 : decode cX3_floats 7 = .ok (.if_icmp .eq 7, 3) := by decide +kernel
theorem dX3_floats_10 : decode cX3_floats 10 = .ok (.iconst 1, 1) := by decide +kernel
theorem dX3_floats_11 : decode cX3_floats 11 = .ok (.goto 4, 3) := by decide +kernel
theorem dX3_floats_14 : decode cX3_floats 14 = .ok (.iconst 0, 1) := by decide +kernel
theorem dX3_floats_15 : decode cX3_floats 15 = .ok (.ireturn, 1) := by decide +kernel
theorem dX3_isFloatingIn_0 : decode cX3_isFloatingIn 0 = .ok (.aload_n 0, 1) := by decide +kernel
theorem dX3_isFloatingIn_1 : decode cX3_isFloatingIn 1 = .ok (.iload_n 2, 1) := by decide +kernel
theorem dX3_isFloatingIn_2 : decode cX3_isFloatingIn 2 = .ok (.iconst 0, 1) := by decide +kernel
theorem dX3_isFloatingIn_3 : decode cX3_isFloatingIn 3 = .ok (.invokevirtual 100, 3) := by decide +kernel
theorem dX3_isFloatingIn_6 : decode cX3_isFloatingIn 6 = .ok (.iload_n 1, 1) := by decide +kernel
theorem dX3_isFloatingIn_7 : decode cX3_isFloatingIn 7 = .ok (.if_icmp .ne 15, 3) := by decide +kernel
theorem dX3_isFloatingIn_10 : decode cX3_isFloatingIn 10 = .ok (.aload_n 0, 1) := by decide +kernel
theorem dX3_isFloatingIn_11 : decode cX3_isFloatingIn 11 = .ok (.iload_n 2, 1) := by decide +kernel
theorem dX3_isFloatingIn_12 : decode cX3_isFloatingIn 12 = .ok (.invokevirtual 103, 3) := by decide +kernel
theorem dX3_isFloatingIn_15 : decode cX3_isFloatingIn 15 = .ok (.ifCond .eq 7, 3) := by decide +kernel
theorem dX3_isFloatingIn_18 : decode cX3_isFloatingIn 18 = .ok (.iconst 1, 1) := by decide +kernel
theorem dX3_isFloatingIn_19 : decode cX3_isFloatingIn 19 = .ok (.goto 4, 3) := by decide +kernel
theorem dX3_isFloatingIn_22 : decode cX3_isFloatingIn 22 = .ok (.iconst 0, 1) := by decide +kernel
theorem dX3_isFloatingIn_23 : decode cX3_isFloatingIn 23 = .ok (.ireturn, 1) := by decide +kernel
theorem dX3_takeOff_0 : decode cX3_takeOff 0 = .ok (.aload_n 0, 1) := by decide +kernel
theorem dX3_takeOff_1 : decode cX3_takeOff 1 = .ok (.iload_n 1, 1) := by decide +kernel
theorem dX3_takeOff_2 : decode cX3_takeOff 2 = .ok (.iconst 1, 1) := by decide +kernel
theorem dX3_takeOff_3 : decode cX3_takeOff 3 = .ok (.iconst (-1), 1) := by decide +kernel
theorem dX3_takeOff_4 : decode cX3_takeOff 4 = .ok (.invokevirtual 96, 3) := by decide +kernel
theorem dX3_takeOff_7 : decode cX3_takeOff 7 = .ok (.aload_n 0, 1) := by decide +kernel
theorem dX3_takeOff_8 : decode cX3_takeOff 8 = .ok (.iload_n 1, 1) := by decide +kernel
theorem dX3_takeOff_9 : decode cX3_takeOff 9 = .ok (.iconst 2, 1) := by decide +kernel
theorem dX3_takeOff_10 : decode cX3_takeOff 10 = .ok (.iconst (-1), 1) := by decide +kernel
theorem dX3_takeOff_11 : decode cX3_takeOff 11 = .ok (.invokevirtual 96, 3) := by decide +kernel
theorem dX3_takeOff_14 : decode cX3_takeOff 14 = .ok (.return_, 1) := by decide +kernel
theorem dX3_removeAllBut_0 : decode cX3_removeAllBut 0 = .ok (.iconst 0, 1) := by decide +kernel
theorem dX3_removeAllBut_1 : decode cX3_removeAllBut 1 = .ok (.istore_n 2, 1) := by decide +kernel
theorem dX3_removeAllBut_2 : decode cX3_removeAllBut 2 = .ok (.iload_n 2, 1) := by decide +kernel
theorem dX3_removeAllBut_3 : decode cX3_removeAllBut 3 = .ok (.aload_n 0, 1) := by decide +kernel
theorem dX3_removeAllBut_4 : decode cX3_removeAllBut 4 = .ok (.getfield 50, 3) := by decide +kernel
theorem dX3_removeAllBut_7 : decode cX3_removeAllBut 7 = .ok (.if_icmp .ge 19, 3) := by decide +kernel
theorem dX3_removeAllBut_10 : decode cX3_removeAllBut 10 = .ok (.iload_n 2, 1) := by decide +kernel
theorem dX3_removeAllBut_11 : decode cX3_removeAllBut 11 = .ok (.iload_n 1, 1) := by decide +kernel
theorem dX3_removeAllBut_12 : decode cX3_removeAllBut 12 = .ok (.if_icmp .eq 8, 3) := by decide +kernel
theorem dX3_removeAllBut_15 : decode cX3_removeAllBut 15 = .ok (.aload_n 0, 1) := by decide +kernel
theorem dX3_removeAllBut_16 : decode cX3_removeAllBut 16 = .ok (.iload_n 2, 1) := by decide +kernel
theorem dX3_removeAllBut_17 : decode cX3_removeAllBut 17 = .ok (.invokevirtual 107, 3) := by decide +kernel
theorem dX3_removeAllBut_20 : decode cX3_removeAllBut 20 = .ok (.iinc 2 1, 3) := by decide +kernel
theorem dX3_removeAllBut_23 : decode cX3_removeAllBut 23 = .ok (.goto (-21), 3) := by decide +kernel
theorem dX3_removeAllBut_26 : decode cX3_removeAllBut 26 = .ok (.return_, 1) := by decide +kernel
theorem dX3_hasCell_0 : decode cX3_hasCell 0 = .ok (.iload_n 1, 1) := by decide +kernel
theorem dX3_hasCell_1 : decode cX3_hasCell 1 = .ok (.ifCond .lt 27, 3) := by decide +kernel
theorem dX3_hasCell_4 : decode cX3_hasCell 4 = .ok (.iload_n 1, 1) := by decide +kernel
theorem dX3_hasCell_5 : decode cX3_hasCell 5 = .ok (.aload_n 0, 1) := by decide +kernel
theorem dX3_hasCell_6 : decode cX3_hasCell 6 = .ok (.getfield 40, 3) := by decide +kernel
theorem dX3_hasCell_9 : decode cX3_hasCell 9 = .ok (.if_icmp .ge 19, 3) := by decide +kernel
theorem dX3_hasCell_12 : decode cX3_hasCell 12 = .ok (.iload_n 2, 1) := by decide +kernel
theorem dX3_hasCell_13 : decode cX3_hasCell 13 = .ok (.ifCond .lt 15, 3) := by decide +kernel
theorem dX3_hasCell_16 : decode cX3_hasCell 16 = .ok (.iload_n 2, 1) := by decide +kernel
theorem dX3_hasCell_17 : decode cX3_hasCell 17 = .ok (.aload_n 0, 1) := by decide +kernel
theorem dX3_hasCell_18 : decode cX3_hasCell 18 = .ok (.getfield 44, 3) := by decide +kernel
theorem dX3_hasCell_21 : decode cX3_hasCell 21 = .ok (.if_icmp .ge 7, 3) := by decide +kernel
theorem dX3_hasCell_24 : decode cX3_hasCell 24 = .ok (.iconst 1, 1) := by decide +kernel
theorem dX3_hasCell_25 : decode cX3_hasCell 25 = .ok (.goto 4, 3) := by decide +kernel
theorem dX3_hasCell_28 : decode cX3_hasCell 28 = .ok (.iconst 0, 1) := by decide +kernel
theorem dX3_hasCell_29 : decode cX3_hasCell 29 = .ok (.ireturn, 1) := by decide +kernel
theorem dX3_shipIn_0 : decode cX3_shipIn 0 = .ok (.iconst 0, 1) := by decide +kernel
theorem dX3_shipIn_1 : decode cX3_shipIn 1 = .ok (.istore_n 3, 1) := by decide +kernel
theorem dX3_shipIn_2 : decode cX3_shipIn 2 = .ok (.iload_n 3, 1) := by decide +kernel
theorem dX3_shipIn_3 : decode cX3_shipIn 3 = .ok (.aload_n 0, 1) := by decide +kernel
theorem dX3_shipIn_4 : decode cX3_shipIn 4 = .ok (.getfield 50, 3) := by decide +kernel
theorem dX3_shipIn_7 : decode cX3_shipIn 7 = .ok (.if_icmp .ge 31, 3) := by decide +kernel
theorem dX3_shipIn_10 : decode cX3_shipIn 10 = .ok (.aload_n 0, 1) := by decide +kernel
theorem dX3_shipIn_11 : decode cX3_shipIn 11 = .ok (.iload_n 3, 1) := by decide +kernel
theorem dX3_shipIn_12 : decode cX3_shipIn 12 = .ok (.iconst 1, 1) := by decide +kernel
theorem dX3_shipIn_13 : decode cX3_shipIn 13 = .ok (.invokevirtual 100, 3) := by decide +kernel
theorem dX3_shipIn_16 : decode cX3_shipIn 16 = .ok (.iload_n 1, 1) := by decide +kernel
theorem dX3_shipIn_17 : decode cX3_shipIn 17 = .ok (.if_icmp .ne 15, 3) := by decide +kernel
theorem dX3_shipIn_20 : decode cX3_shipIn 20 = .ok (.aload_n 0, 1) := by decide +kernel
theorem dX3_shipIn_21 : decode cX3_shipIn 21 = .ok (.iload_n 3, 1) := by decide +kernel
theorem dX3_shipIn_22 : decode cX3_shipIn 22 = .ok (.iconst 2, 1) := by decide +kernel
theorem dX3_shipIn_23 : decode cX3_shipIn 23 = .ok (.invokevirtual 100, 3) := by decide +kernel
theorem dX3_shipIn_26 : decode cX3_shipIn 26 = .ok (.iload_n 2, 1) := by decide +kernel
theorem dX3_shipIn_27 : decode cX3_shipIn 27 = .ok (.if_icmp .ne 5, 3) := by decide +kernel
theorem dX3_shipIn_30 : decode cX3_shipIn 30 = .ok (.iload_n 3, 1) := by decide +kernel
theorem dX3_shipIn_31 : decode cX3_shipIn 31 = .ok (.ireturn, 1) := by decide +kernel
theorem dX3_shipIn_32 : decode cX3_shipIn 32 = .ok (.iinc 3 1, 3) := by decide +kernel
theorem dX3_shipIn_35 : decode cX3_shipIn 35 = .ok (.goto (-33), 3) := by decide +kernel
theorem dX3_shipIn_38 : decode cX3_shipIn 38 = .ok (.iconst (-1), 1) := by decide +kernel
theorem dX3_shipIn_39 : decode cX3_shipIn 39 = .ok (.ireturn, 1) := by decide +kernel
theorem dX3_shipNamed_0 : decode cX3_shipNamed 0 = .ok (.iconst 0, 1) := by decide +kernel
theorem dX3_shipNamed_1 : decode cX3_shipNamed 1 = .ok (.istore_n 3, 1) := by decide +kernel
theorem dX3_shipNamed_2 : decode cX3_shipNamed 2 = .ok (.iload_n 3, 1) := by decide +kernel
theorem dX3_shipNamed_3 : decode cX3_shipNamed 3 = .ok (.aload_n 0, 1) := by decide +kernel
theorem dX3_shipNamed_4 : decode cX3_shipNamed 4 = .ok (.getfield 50, 3) := by decide +kernel
theorem dX3_shipNamed_7 : decode cX3_shipNamed 7 = .ok (.if_icmp .ge 22, 3) := by decide +kernel
theorem dX3_shipNamed_10 : decode cX3_shipNamed 10 = .ok (.aload_n 0, 1) := by decide +kernel
theorem dX3_shipNamed_11 : decode cX3_shipNamed 11 = .ok (.getfield 9, 3) := by decide +kernel
theorem dX3_shipNamed_14 : decode cX3_shipNamed 14 = .ok (.iload_n 3, 1) := by decide +kernel
theorem dX3_shipNamed_15 : decode cX3_shipNamed 15 = .ok (.laload, 1) := by decide +kernel
theorem dX3_shipNamed_16 : decode cX3_shipNamed 16 = .ok (.lload_n 1, 1) := by decide +kernel
theorem dX3_shipNamed_17 : decode cX3_shipNamed 17 = .ok (.lcmp, 1) := by decide +kernel
theorem dX3_shipNamed_18 : decode cX3_shipNamed 18 = .ok (.ifCond .ne 5, 3) := by decide +kernel
theorem dX3_shipNamed_21 : decode cX3_shipNamed 21 = .ok (.iload_n 3, 1) := by decide +kernel
theorem dX3_shipNamed_22 : decode cX3_shipNamed 22 = .ok (.ireturn, 1) := by decide +kernel
theorem dX3_shipNamed_23 : decode cX3_shipNamed 23 = .ok (.iinc 3 1, 3) := by decide +kernel
theorem dX3_shipNamed_26 : decode cX3_shipNamed 26 = .ok (.goto (-24), 3) := by decide +kernel
theorem dX3_shipNamed_29 : decode cX3_shipNamed 29 = .ok (.iconst (-1), 1) := by decide +kernel
theorem dX3_shipNamed_30 : decode cX3_shipNamed 30 = .ok (.ireturn, 1) := by decide +kernel
theorem dX3_shipsOf_0 : decode cX3_shipsOf 0 = .ok (.iconst 0, 1) := by decide +kernel
theorem dX3_shipsOf_1 : decode cX3_shipsOf 1 = .ok (.istore_n 2, 1) := by decide +kernel
theorem dX3_shipsOf_2 : decode cX3_shipsOf 2 = .ok (.iconst 0, 1) := by decide +kernel
theorem dX3_shipsOf_3 : decode cX3_shipsOf 3 = .ok (.istore_n 3, 1) := by decide +kernel
theorem dX3_shipsOf_4 : decode cX3_shipsOf 4 = .ok (.iload_n 3, 1) := by decide +kernel
theorem dX3_shipsOf_5 : decode cX3_shipsOf 5 = .ok (.aload_n 0, 1) := by decide +kernel
theorem dX3_shipsOf_6 : decode cX3_shipsOf 6 = .ok (.getfield 50, 3) := by decide +kernel
theorem dX3_shipsOf_9 : decode cX3_shipsOf 9 = .ok (.if_icmp .ge 24, 3) := by decide +kernel
theorem dX3_shipsOf_12 : decode cX3_shipsOf 12 = .ok (.aload_n 0, 1) := by decide +kernel
theorem dX3_shipsOf_13 : decode cX3_shipsOf 13 = .ok (.iload_n 1, 1) := by decide +kernel
theorem dX3_shipsOf_14 : decode cX3_shipsOf 14 = .ok (.iload_n 3, 1) := by decide +kernel
theorem dX3_shipsOf_15 : decode cX3_shipsOf 15 = .ok (.invokevirtual 111, 3) := by decide +kernel
theorem dX3_shipsOf_18 : decode cX3_shipsOf 18 = .ok (.ifCond .eq 9, 3) := by decide +kernel
theorem dX3_shipsOf_21 : decode cX3_shipsOf 21 = .ok (.iload_n 2, 1) := by decide +kernel
theorem dX3_shipsOf_22 : decode cX3_shipsOf 22 = .ok (.iconst 1, 1) := by decide +kernel
theorem dX3_shipsOf_23 : decode cX3_shipsOf 23 = .ok (.iload_n 3, 1) := by decide +kernel
theorem dX3_shipsOf_24 : decode cX3_shipsOf 24 = .ok (.ishl, 1) := by decide +kernel
theorem dX3_shipsOf_25 : decode cX3_shipsOf 25 = .ok (.ior, 1) := by decide +kernel
theorem dX3_shipsOf_26 : decode cX3_shipsOf 26 = .ok (.istore_n 2, 1) := by decide +kernel
theorem dX3_shipsOf_27 : decode cX3_shipsOf 27 = .ok (.iinc 3 1, 3) := by decide +kernel
theorem dX3_shipsOf_30 : decode cX3_shipsOf 30 = .ok (.goto (-26), 3) := by decide +kernel
theorem dX3_shipsOf_33 : decode cX3_shipsOf 33 = .ok (.iload_n 2, 1) := by decide +kernel
theorem dX3_shipsOf_34 : decode cX3_shipsOf 34 = .ok (.ireturn, 1) := by decide +kernel
theorem dX3_floatingShips_0 : decode cX3_floatingShips 0 = .ok (.iconst 0, 1) := by decide +kernel
theorem dX3_floatingShips_1 : decode cX3_floatingShips 1 = .ok (.istore_n 1, 1) := by decide +kernel
theorem dX3_floatingShips_2 : decode cX3_floatingShips 2 = .ok (.iconst 0, 1) := by decide +kernel
theorem dX3_floatingShips_3 : decode cX3_floatingShips 3 = .ok (.istore_n 2, 1) := by decide +kernel
theorem dX3_floatingShips_4 : decode cX3_floatingShips 4 = .ok (.iload_n 2, 1) := by decide +kernel
theorem dX3_floatingShips_5 : decode cX3_floatingShips 5 = .ok (.aload_n 0, 1) := by decide +kernel
theorem dX3_floatingShips_6 : decode cX3_floatingShips 6 = .ok (.getfield 47, 3) := by decide +kernel
theorem dX3_floatingShips_9 : decode cX3_floatingShips 9 = .ok (.if_icmp .ge 20, 3) := by decide +kernel
theorem dX3_floatingShips_12 : decode cX3_floatingShips 12 = .ok (.iload_n 1, 1) := by decide +kernel
theorem dX3_floatingShips_13 : decode cX3_floatingShips 13 = .ok (.aload_n 0, 1) := by decide +kernel
theorem dX3_floatingShips_14 : decode cX3_floatingShips 14 = .ok (.iload_n 2, 1) := by decide +kernel
theorem dX3_floatingShips_15 : decode cX3_floatingShips 15 = .ok (.invokevirtual 115, 3) := by decide +kernel
theorem dX3_floatingShips_18 : decode cX3_floatingShips 18 = .ok (.invokestatic 119, 3) := by decide +kernel
theorem dX3_floatingShips_21 : decode cX3_floatingShips 21 = .ok (.iadd, 1) := by decide +kernel
theorem dX3_floatingShips_22 : decode cX3_floatingShips 22 = .ok (.istore_n 1, 1) := by decide +kernel
theorem dX3_floatingShips_23 : decode cX3_floatingShips 23 = .ok (.iinc 2 1, 3) := by decide +kernel
theorem dX3_floatingShips_26 : decode cX3_floatingShips 26 = .ok (.goto (-22), 3) := by decide +kernel
theorem dX3_floatingShips_29 : decode cX3_floatingShips 29 = .ok (.iload_n 1, 1) := by decide +kernel
theorem dX3_floatingShips_30 : decode cX3_floatingShips 30 = .ok (.ireturn, 1) := by decide +kernel
theorem dX3_onlyFleet_0 : decode cX3_onlyFleet 0 = .ok (.iconst (-1), 1) := by decide +kernel
theorem dX3_onlyFleet_1 : decode cX3_onlyFleet 1 = .ok (.istore_n 1, 1) := by decide +kernel
theorem dX3_onlyFleet_2 : decode cX3_onlyFleet 2 = .ok (.iconst 0, 1) := by decide +kernel
theorem dX3_onlyFleet_3 : decode cX3_onlyFleet 3 = .ok (.istore_n 2, 1) := by decide +kernel
theorem dX3_onlyFleet_4 : decode cX3_onlyFleet 4 = .ok (.iload_n 2, 1) := by decide +kernel
theorem dX3_onlyFleet_5 : decode cX3_onlyFleet 5 = .ok (.aload_n 0, 1) := by decide +kernel
theorem dX3_onlyFleet_6 : decode cX3_onlyFleet 6 = .ok (.getfield 47, 3) := by decide +kernel
theorem dX3_onlyFleet_9 : decode cX3_onlyFleet 9 = .ok (.if_icmp .ge 26, 3) := by decide +kernel
theorem dX3_onlyFleet_12 : decode cX3_onlyFleet 12 = .ok (.aload_n 0, 1) := by decide +kernel
theorem dX3_onlyFleet_13 : decode cX3_onlyFleet 13 = .ok (.iload_n 2, 1) := by decide +kernel
theorem dX3_onlyFleet_14 : decode cX3_onlyFleet 14 = .ok (.invokevirtual 115, 3) := by decide +kernel
theorem dX3_onlyFleet_17 : decode cX3_onlyFleet 17 = .ok (.ifCond .eq 12, 3) := by decide +kernel
theorem dX3_onlyFleet_20 : decode cX3_onlyFleet 20 = .ok (.iload_n 1, 1) := by decide +kernel
theorem dX3_onlyFleet_21 : decode cX3_onlyFleet 21 = .ok (.iconst (-1), 1) := by decide +kernel
theorem dX3_onlyFleet_22 : decode cX3_onlyFleet 22 = .ok (.if_icmp .eq 5, 3) := by decide +kernel
theorem dX3_onlyFleet_25 : decode cX3_onlyFleet 25 = .ok (.iconst (-1), 1) := by decide +kernel
theorem dX3_onlyFleet_26 : decode cX3_onlyFleet 26 = .ok (.ireturn, 1) := by decide +kernel
theorem dX3_onlyFleet_27 : decode cX3_onlyFleet 27 = .ok (.iload_n 2, 1) := by decide +kernel
theorem dX3_onlyFleet_28 : decode cX3_onlyFleet 28 = .ok (.istore_n 1, 1) := by decide +kernel
theorem dX3_onlyFleet_29 : decode cX3_onlyFleet 29 = .ok (.iinc 2 1, 3) := by decide +kernel
theorem dX3_onlyFleet_32 : decode cX3_onlyFleet 32 = .ok (.goto (-28), 3) := by decide +kernel
theorem dX3_onlyFleet_35 : decode cX3_onlyFleet 35 = .ok (.iload_n 1, 1) := by decide +kernel
theorem dX3_onlyFleet_36 : decode cX3_onlyFleet 36 = .ok (.ireturn, 1) := by decide +kernel
theorem dX3_hullOf_0 : decode cX3_hullOf 0 = .ok (.iconst 0, 1) := by decide +kernel
theorem dX3_hullOf_1 : decode cX3_hullOf 1 = .ok (.istore_n 2, 1) := by decide +kernel
theorem dX3_hullOf_2 : decode cX3_hullOf 2 = .ok (.iconst 0, 1) := by decide +kernel
theorem dX3_hullOf_3 : decode cX3_hullOf 3 = .ok (.istore_n 3, 1) := by decide +kernel
theorem dX3_hullOf_4 : decode cX3_hullOf 4 = .ok (.iload_n 3, 1) := by decide +kernel
theorem dX3_hullOf_5 : decode cX3_hullOf 5 = .ok (.aload_n 0, 1) := by decide +kernel
theorem dX3_hullOf_6 : decode cX3_hullOf 6 = .ok (.getfield 50, 3) := by decide +kernel
theorem dX3_hullOf_9 : decode cX3_hullOf 9 = .ok (.if_icmp .ge 27, 3) := by decide +kernel
theorem dX3_hullOf_12 : decode cX3_hullOf 12 = .ok (.aload_n 0, 1) := by decide +kernel
theorem dX3_hullOf_13 : decode cX3_hullOf 13 = .ok (.iload_n 1, 1) := by decide +kernel
theorem dX3_hullOf_14 : decode cX3_hullOf 14 = .ok (.iload_n 3, 1) := by decide +kernel
theorem dX3_hullOf_15 : decode cX3_hullOf 15 = .ok (.invokevirtual 111, 3) := by decide +kernel
theorem dX3_hullOf_18 : decode cX3_hullOf 18 = .ok (.ifCond .eq 12, 3) := by decide +kernel
theorem dX3_hullOf_21 : decode cX3_hullOf 21 = .ok (.iload_n 2, 1) := by decide +kernel
theorem dX3_hullOf_22 : decode cX3_hullOf 22 = .ok (.aload_n 0, 1) := by decide +kernel
theorem dX3_hullOf_23 : decode cX3_hullOf 23 = .ok (.iload_n 3, 1) := by decide +kernel
theorem dX3_hullOf_24 : decode cX3_hullOf 24 = .ok (.iconst 4, 1) := by decide +kernel
theorem dX3_hullOf_25 : decode cX3_hullOf 25 = .ok (.invokevirtual 100, 3) := by decide +kernel
theorem dX3_hullOf_28 : decode cX3_hullOf 28 = .ok (.iadd, 1) := by decide +kernel
theorem dX3_hullOf_29 : decode cX3_hullOf 29 = .ok (.istore_n 2, 1) := by decide +kernel
theorem dX3_hullOf_30 : decode cX3_hullOf 30 = .ok (.iinc 3 1, 3) := by decide +kernel
theorem dX3_hullOf_33 : decode cX3_hullOf 33 = .ok (.goto (-29), 3) := by decide +kernel
theorem dX3_hullOf_36 : decode cX3_hullOf 36 = .ok (.iload_n 2, 1) := by decide +kernel
theorem dX3_hullOf_37 : decode cX3_hullOf 37 = .ok (.ireturn, 1) := by decide +kernel
theorem dX3_maneuversOf_0 : decode cX3_maneuversOf 0 = .ok (.iconst 0, 1) := by decide +kernel
theorem dX3_maneuversOf_1 : decode cX3_maneuversOf 1 = .ok (.istore_n 2, 1) := by decide +kernel
theorem dX3_maneuversOf_2 : decode cX3_maneuversOf 2 = .ok (.iconst 0, 1) := by decide +kernel
theorem dX3_maneuversOf_3 : decode cX3_maneuversOf 3 = .ok (.istore_n 3, 1) := by decide +kernel
theorem dX3_maneuversOf_4 : decode cX3_maneuversOf 4 = .ok (.iload_n 3, 1) := by decide +kernel
theorem dX3_maneuversOf_5 : decode cX3_maneuversOf 5 = .ok (.aload_n 0, 1) := by decide +kernel
theorem dX3_maneuversOf_6 : decode cX3_maneuversOf 6 = .ok (.getfield 50, 3) := by decide +kernel
theorem dX3_maneuversOf_9 : decode cX3_maneuversOf 9 = .ok (.if_icmp .ge 57, 3) := by decide +kernel
theorem dX3_maneuversOf_12 : decode cX3_maneuversOf 12 = .ok (.aload_n 0, 1) := by decide +kernel
theorem dX3_maneuversOf_13 : decode cX3_maneuversOf 13 = .ok (.iload_n 1, 1) := by decide +kernel
theorem dX3_maneuversOf_14 : decode cX3_maneuversOf 14 = .ok (.iload_n 3, 1) := by decide +kernel
theorem dX3_maneuversOf_15 : decode cX3_maneuversOf 15 = .ok (.invokevirtual 111, 3) := by decide +kernel
theorem dX3_maneuversOf_18 : decode cX3_maneuversOf 18 = .ok (.ifCond .eq 42, 3) := by decide +kernel
theorem dX3_maneuversOf_21 : decode cX3_maneuversOf 21 = .ok (.iconst 0, 1) := by decide +kernel
theorem dX3_maneuversOf_22 : decode cX3_maneuversOf 22 = .ok (.istore 4, 2) := by decide +kernel
theorem dX3_maneuversOf_24 : decode cX3_maneuversOf 24 = .ok (.iload 4, 2) := by decide +kernel
theorem dX3_maneuversOf_26 : decode cX3_maneuversOf 26 = .ok (.bipush 6, 2) := by decide +kernel
theorem dX3_maneuversOf_28 : decode cX3_maneuversOf 28 = .ok (.if_icmp .ge 32, 3) := by decide +kernel
theorem dX3_maneuversOf_31 : decode cX3_maneuversOf 31 = .ok (.iload_n 2, 1) := by decide +kernel
theorem dX3_maneuversOf_32 : decode cX3_maneuversOf 32 = .ok (.aload_n 0, 1) := by decide +kernel
theorem dX3_maneuversOf_33 : decode cX3_maneuversOf 33 = .ok (.getfield 19, 3) := by decide +kernel
theorem dX3_maneuversOf_36 : decode cX3_maneuversOf 36 = .ok (.iload_n 3, 1) := by decide +kernel
theorem dX3_maneuversOf_37 : decode cX3_maneuversOf 37 = .ok (.iaload, 1) := by decide +kernel
theorem dX3_maneuversOf_38 : decode cX3_maneuversOf 38 = .ok (.iload 4, 2) := by decide +kernel
theorem dX3_maneuversOf_40 : decode cX3_maneuversOf 40 = .ok (.invokestatic 124, 3) := by decide +kernel
theorem dX3_maneuversOf_43 : decode cX3_maneuversOf 43 = .ok (.iconst 1, 1) := by decide +kernel
theorem dX3_maneuversOf_44 : decode cX3_maneuversOf 44 = .ok (.if_icmp .ne 7, 3) := by decide +kernel
theorem dX3_maneuversOf_47 : decode cX3_maneuversOf 47 = .ok (.iconst 0, 1) := by decide +kernel
theorem dX3_maneuversOf_48 : decode cX3_maneuversOf 48 = .ok (.goto 4, 3) := by decide +kernel
theorem dX3_maneuversOf_51 : decode cX3_maneuversOf 51 = .ok (.iconst 1, 1) := by decide +kernel
theorem dX3_maneuversOf_52 : decode cX3_maneuversOf 52 = .ok (.iadd, 1) := by decide +kernel
theorem dX3_maneuversOf_53 : decode cX3_maneuversOf 53 = .ok (.istore_n 2, 1) := by decide +kernel
theorem dX3_maneuversOf_54 : decode cX3_maneuversOf 54 = .ok (.iinc 4 1, 3) := by decide +kernel
theorem dX3_maneuversOf_57 : decode cX3_maneuversOf 57 = .ok (.goto (-33), 3) := by decide +kernel
theorem dX3_maneuversOf_60 : decode cX3_maneuversOf 60 = .ok (.iinc 3 1, 3) := by decide +kernel
theorem dX3_maneuversOf_63 : decode cX3_maneuversOf 63 = .ok (.goto (-59), 3) := by decide +kernel
theorem dX3_maneuversOf_66 : decode cX3_maneuversOf 66 = .ok (.iload_n 2, 1) := by decide +kernel
theorem dX3_maneuversOf_67 : decode cX3_maneuversOf 67 = .ok (.ireturn, 1) := by decide +kernel
theorem dX3_growth_0 : decode cX3_growth 0 = .ok (.aload_n 0, 1) := by decide +kernel
theorem dX3_growth_1 : decode cX3_growth 1 = .ok (.iload_n 1, 1) := by decide +kernel
theorem dX3_growth_2 : decode cX3_growth 2 = .ok (.bipush 6, 2) := by decide +kernel
theorem dX3_growth_4 : decode cX3_growth 4 = .ok (.invokevirtual 100, 3) := by decide +kernel
theorem dX3_growth_7 : decode cX3_growth 7 = .ok (.aload_n 0, 1) := by decide +kernel
theorem dX3_growth_8 : decode cX3_growth 8 = .ok (.getfield 59, 3) := by decide +kernel
theorem dX3_growth_11 : decode cX3_growth 11 = .ok (.imul, 1) := by decide +kernel
theorem dX3_growth_12 : decode cX3_growth 12 = .ok (.getstatic 127, 3) := by decide +kernel
theorem dX3_growth_15 : decode cX3_growth 15 = .ok (.iload_n 2, 1) := by decide +kernel
theorem dX3_growth_16 : decode cX3_growth 16 = .ok (.aload_n 0, 1) := by decide +kernel
theorem dX3_growth_17 : decode cX3_growth 17 = .ok (.getfield 56, 3) := by decide +kernel
theorem dX3_growth_20 : decode cX3_growth 20 = .ok (.invokestatic 130, 3) := by decide +kernel
theorem dX3_growth_23 : decode cX3_growth 23 = .ok (.iaload, 1) := by decide +kernel
theorem dX3_growth_24 : decode cX3_growth 24 = .ok (.imul, 1) := by decide +kernel
theorem dX3_growth_25 : decode cX3_growth 25 = .ok (.ireturn, 1) := by decide +kernel
theorem dX3_isSeenBy_0 : decode cX3_isSeenBy 0 = .ok (.aload_n 0, 1) := by decide +kernel
theorem dX3_isSeenBy_1 : decode cX3_isSeenBy 1 = .ok (.iload_n 2, 1) := by decide +kernel
theorem dX3_isSeenBy_2 : decode cX3_isSeenBy 2 = .ok (.iconst 0, 1) := by decide +kernel
theorem dX3_isSeenBy_3 : decode cX3_isSeenBy 3 = .ok (.invokevirtual 100, 3) := by decide +kernel
theorem dX3_isSeenBy_6 : decode cX3_isSeenBy 6 = .ok (.iload_n 1, 1) := by decide +kernel
theorem dX3_isSeenBy_7 : decode cX3_isSeenBy 7 = .ok (.if_icmp .ne 5, 3) := by decide +kernel
theorem dX3_isSeenBy_10 : decode cX3_isSeenBy 10 = .ok (.iconst 1, 1) := by decide +kernel
theorem dX3_isSeenBy_11 : decode cX3_isSeenBy 11 = .ok (.ireturn, 1) := by decide +kernel
theorem dX3_isSeenBy_12 : decode cX3_isSeenBy 12 = .ok (.iconst 0, 1) := by decide +kernel
theorem dX3_isSeenBy_13 : decode cX3_isSeenBy 13 = .ok (.istore_n 3, 1) := by decide +kernel
theorem dX3_isSeenBy_14 : decode cX3_isSeenBy 14 = .ok (.iload_n 3, 1) := by decide +kernel
theorem dX3_isSeenBy_15 : decode cX3_isSeenBy 15 = .ok (.aload_n 0, 1) := by decide +kernel
theorem dX3_isSeenBy_16 : decode cX3_isSeenBy 16 = .ok (.getfield 50, 3) := by decide +kernel
theorem dX3_isSeenBy_19 : decode cX3_isSeenBy 19 = .ok (.if_icmp .ge 37, 3) := by decide +kernel
theorem dX3_isSeenBy_22 : decode cX3_isSeenBy 22 = .ok (.aload_n 0, 1) := by decide +kernel
theorem dX3_isSeenBy_23 : decode cX3_isSeenBy 23 = .ok (.iload_n 1, 1) := by decide +kernel
theorem dX3_isSeenBy_24 : decode cX3_isSeenBy 24 = .ok (.iload_n 3, 1) := by decide +kernel
theorem dX3_isSeenBy_25 : decode cX3_isSeenBy 25 = .ok (.invokevirtual 111, 3) := by decide +kernel
theorem dX3_isSeenBy_28 : decode cX3_isSeenBy 28 = .ok (.ifCond .eq 22, 3) := by decide +kernel
theorem dX3_isSeenBy_31 : decode cX3_isSeenBy 31 = .ok (.aload_n 0, 1) := by decide +kernel
theorem dX3_isSeenBy_32 : decode cX3_isSeenBy 32 = .ok (.iload_n 2, 1) := by decide +kernel
theorem dX3_isSeenBy_33 : decode cX3_isSeenBy 33 = .ok (.invokevirtual 103, 3) := by decide +kernel
theorem dX3_isSeenBy_36 : decode cX3_isSeenBy 36 = .ok (.ifCond .eq 14, 3) := by decide +kernel
theorem dX3_isSeenBy_39 : decode cX3_isSeenBy 39 = .ok (.aload_n 0, 1) := by decide +kernel
theorem dX3_isSeenBy_40 : decode cX3_isSeenBy 40 = .ok (.iload_n 3, 1) := by decide +kernel
theorem dX3_isSeenBy_41 : decode cX3_isSeenBy 41 = .ok (.iload_n 2, 1) := by decide +kernel
theorem dX3_isSeenBy_42 : decode cX3_isSeenBy 42 = .ok (.invokevirtual 133, 3) := by decide +kernel
theorem dX3_isSeenBy_45 : decode cX3_isSeenBy 45 = .ok (.ifCond .eq 5, 3) := by decide +kernel
theorem dX3_isSeenBy_48 : decode cX3_isSeenBy 48 = .ok (.iconst 1, 1) := by decide +kernel
theorem dX3_isSeenBy_49 : decode cX3_isSeenBy 49 = .ok (.ireturn, 1) := by decide +kernel
theorem dX3_isSeenBy_50 : decode cX3_isSeenBy 50 = .ok (.iinc 3 1, 3) := by decide +kernel
theorem dX3_isSeenBy_53 : decode cX3_isSeenBy 53 = .ok (.goto (-39), 3) := by decide +kernel
theorem dX3_isSeenBy_56 : decode cX3_isSeenBy 56 = .ok (.iconst 0, 1) := by decide +kernel
theorem dX3_isSeenBy_57 : decode cX3_isSeenBy 57 = .ok (.ireturn, 1) := by decide +kernel
theorem dX3_areNear_0 : decode cX3_areNear 0 = .ok (.aload_n 0, 1) := by decide +kernel
theorem dX3_areNear_1 : decode cX3_areNear 1 = .ok (.iload_n 1, 1) := by decide +kernel
theorem dX3_areNear_2 : decode cX3_areNear 2 = .ok (.iconst 1, 1) := by decide +kernel
theorem dX3_areNear_3 : decode cX3_areNear 3 = .ok (.invokevirtual 100, 3) := by decide +kernel
theorem dX3_areNear_6 : decode cX3_areNear 6 = .ok (.aload_n 0, 1) := by decide +kernel
theorem dX3_areNear_7 : decode cX3_areNear 7 = .ok (.iload_n 2, 1) := by decide +kernel
theorem dX3_areNear_8 : decode cX3_areNear 8 = .ok (.iconst 1, 1) := by decide +kernel
theorem dX3_areNear_9 : decode cX3_areNear 9 = .ok (.invokevirtual 100, 3) := by decide +kernel
theorem dX3_areNear_12 : decode cX3_areNear 12 = .ok (.isub, 1) := by decide +kernel
theorem dX3_areNear_13 : decode cX3_areNear 13 = .ok (.invokestatic 136, 3) := by decide +kernel
theorem dX3_areNear_16 : decode cX3_areNear 16 = .ok (.iconst 5, 1) := by decide +kernel
theorem dX3_areNear_17 : decode cX3_areNear 17 = .ok (.if_icmp .gt 27, 3) := by decide +kernel
theorem dX3_areNear_20 : decode cX3_areNear 20 = .ok (.aload_n 0, 1) := by decide +kernel
theorem dX3_areNear_21 : decode cX3_areNear 21 = .ok (.iload_n 1, 1) := by decide +kernel
theorem dX3_areNear_22 : decode cX3_areNear 22 = .ok (.iconst 2, 1) := by decide +kernel
theorem dX3_areNear_23 : decode cX3_areNear 23 = .ok (.invokevirtual 100, 3) := by decide +kernel
theorem dX3_areNear_26 : decode cX3_areNear 26 = .ok (.aload_n 0, 1) := by decide +kernel
theorem dX3_areNear_27 : decode cX3_areNear 27 = .ok (.iload_n 2, 1) := by decide +kernel
theorem dX3_areNear_28 : decode cX3_areNear 28 = .ok (.iconst 2, 1) := by decide +kernel
theorem dX3_areNear_29 : decode cX3_areNear 29 = .ok (.invokevirtual 100, 3) := by decide +kernel
theorem dX3_areNear_32 : decode cX3_areNear 32 = .ok (.isub, 1) := by decide +kernel
theorem dX3_areNear_33 : decode cX3_areNear 33 = .ok (.invokestatic 136, 3) := by decide +kernel
theorem dX3_areNear_36 : decode cX3_areNear 36 = .ok (.iconst 5, 1) := by decide +kernel
theorem dX3_areNear_37 : decode cX3_areNear 37 = .ok (.if_icmp .gt 7, 3) := by decide +kernel
theorem dX3_areNear_40 : decode cX3_areNear 40 = .ok (.iconst 1, 1) := by decide +kernel
theorem dX3_areNear_41 : decode cX3_areNear 41 = .ok (.goto 4, 3) := by decide +kernel
theorem dX3_areNear_44 : decode cX3_areNear 44 = .ok (.iconst 0, 1) := by decide +kernel
theorem dX3_areNear_45 : decode cX3_areNear 45 = .ok (.ireturn, 1) := by decide +kernel
theorem dX3_shiftNumber_0 : decode cX3_shiftNumber 0 = .ok (.aload_n 0, 1) := by decide +kernel
theorem dX3_shiftNumber_1 : decode cX3_shiftNumber 1 = .ok (.getfield 22, 3) := by decide +kernel
theorem dX3_shiftNumber_4 : decode cX3_shiftNumber 4 = .ok (.iload_n 1, 1) := by decide +kernel
theorem dX3_shiftNumber_5 : decode cX3_shiftNumber 5 = .ok (.iconst 3, 1) := by decide +kernel
theorem dX3_shiftNumber_6 : decode cX3_shiftNumber 6 = .ok (.imul, 1) := by decide +kernel
theorem dX3_shiftNumber_7 : decode cX3_shiftNumber 7 = .ok (.iload_n 2, 1) := by decide +kernel
theorem dX3_shiftNumber_8 : decode cX3_shiftNumber 8 = .ok (.iadd, 1) := by decide +kernel
theorem dX3_shiftNumber_9 : decode cX3_shiftNumber 9 = .ok (.iaload, 1) := by decide +kernel
theorem dX3_shiftNumber_10 : decode cX3_shiftNumber 10 = .ok (.ireturn, 1) := by decide +kernel
theorem dX3_shiftOf_0 : decode cX3_shiftOf 0 = .ok (.iconst 0, 1) := by decide +kernel
theorem dX3_shiftOf_1 : decode cX3_shiftOf 1 = .ok (.istore_n 2, 1) := by decide +kernel
theorem dX3_shiftOf_2 : decode cX3_shiftOf 2 = .ok (.iload_n 2, 1) := by decide +kernel
theorem dX3_shiftOf_3 : decode cX3_shiftOf 3 = .ok (.aload_n 0, 1) := by decide +kernel
theorem dX3_shiftOf_4 : decode cX3_shiftOf 4 = .ok (.getfield 62, 3) := by decide +kernel
theorem dX3_shiftOf_7 : decode cX3_shiftOf 7 = .ok (.if_icmp .ge 21, 3) := by decide +kernel
theorem dX3_shiftOf_10 : decode cX3_shiftOf 10 = .ok (.aload_n 0, 1) := by decide +kernel
theorem dX3_shiftOf_11 : decode cX3_shiftOf 11 = .ok (.iload_n 2, 1) := by decide +kernel
theorem dX3_shiftOf_12 : decode cX3_shiftOf 12 = .ok (.iconst 0, 1) := by decide +kernel
theorem dX3_shiftOf_13 : decode cX3_shiftOf 13 = .ok (.invokevirtual 139, 3) := by decide +kernel
theorem dX3_shiftOf_16 : decode cX3_shiftOf 16 = .ok (.iload_n 1, 1) := by decide +kernel
theorem dX3_shiftOf_17 : decode cX3_shiftOf 17 = .ok (.if_icmp .ne 5, 3) := by decide +kernel
theorem dX3_shiftOf_20 : decode cX3_shiftOf 20 = .ok (.iload_n 2, 1) := by decide +kernel
theorem dX3_shiftOf_21 : decode cX3_shiftOf 21 = .ok (.ireturn, 1) := by decide +kernel
theorem dX3_shiftOf_22 : decode cX3_shiftOf 22 = .ok (.iinc 2 1, 3) := by decide +kernel
theorem dX3_shiftOf_25 : decode cX3_shiftOf 25 = .ok (.goto (-23), 3) := by decide +kernel
theorem dX3_shiftOf_28 : decode cX3_shiftOf 28 = .ok (.iconst (-1), 1) := by decide +kernel
theorem dX3_shiftOf_29 : decode cX3_shiftOf 29 = .ok (.ireturn, 1) := by decide +kernel
theorem dX3_shiftWind_0 : decode cX3_shiftWind 0 = .ok (.aload_n 0, 1) := by decide +kernel
theorem dX3_shiftWind_1 : decode cX3_shiftWind 1 = .ok (.aload_n 0, 1) := by decide +kernel
theorem dX3_shiftWind_2 : decode cX3_shiftWind 2 = .ok (.getfield 53, 3) := by decide +kernel
theorem dX3_shiftWind_5 : decode cX3_shiftWind 5 = .ok (.invokevirtual 142, 3) := by decide +kernel
theorem dX3_shiftWind_8 : decode cX3_shiftWind 8 = .ok (.istore_n 1, 1) := by decide +kernel
theorem dX3_shiftWind_9 : decode cX3_shiftWind 9 = .ok (.iload_n 1, 1) := by decide +kernel
theorem dX3_shiftWind_10 : decode cX3_shiftWind 10 = .ok (.iconst (-1), 1) := by decide +kernel
theorem dX3_shiftWind_11 : decode cX3_shiftWind 11 = .ok (.if_icmp .eq 23, 3) := by decide +kernel
theorem dX3_shiftWind_14 : decode cX3_shiftWind 14 = .ok (.aload_n 0, 1) := by decide +kernel
theorem dX3_shiftWind_15 : decode cX3_shiftWind 15 = .ok (.aload_n 0, 1) := by decide +kernel
theorem dX3_shiftWind_16 : decode cX3_shiftWind 16 = .ok (.iload_n 1, 1) := by decide +kernel
theorem dX3_shiftWind_17 : decode cX3_shiftWind 17 = .ok (.iconst 1, 1) := by decide +kernel
theorem dX3_shiftWind_18 : decode cX3_shiftWind 18 = .ok (.invokevirtual 139, 3) := by decide +kernel
theorem dX3_shiftWind_21 : decode cX3_shiftWind 21 = .ok (.putfield 56, 3) := by decide +kernel
theorem dX3_shiftWind_24 : decode cX3_shiftWind 24 = .ok (.aload_n 0, 1) := by decide +kernel
theorem dX3_shiftWind_25 : decode cX3_shiftWind 25 = .ok (.aload_n 0, 1) := by decide +kernel
theorem dX3_shiftWind_26 : decode cX3_shiftWind 26 = .ok (.iload_n 1, 1) := by decide +kernel
theorem dX3_shiftWind_27 : decode cX3_shiftWind 27 = .ok (.iconst 2, 1) := by decide +kernel
theorem dX3_shiftWind_28 : decode cX3_shiftWind 28 = .ok (.invokevirtual 139, 3) := by decide +kernel
theorem dX3_shiftWind_31 : decode cX3_shiftWind 31 = .ok (.putfield 59, 3) := by decide +kernel
theorem dX3_shiftWind_34 : decode cX3_shiftWind 34 = .ok (.return_, 1) := by decide +kernel
theorem dX3_hasSealed_0 : decode cX3_hasSealed 0 = .ok (.aload_n 0, 1) := by decide +kernel
theorem dX3_hasSealed_1 : decode cX3_hasSealed 1 = .ok (.getfield 31, 3) := by decide +kernel
theorem dX3_hasSealed_4 : decode cX3_hasSealed 4 = .ok (.iload_n 1, 1) := by decide +kernel
theorem dX3_hasSealed_5 : decode cX3_hasSealed 5 = .ok (.iaload, 1) := by decide +kernel
theorem dX3_hasSealed_6 : decode cX3_hasSealed 6 = .ok (.iconst (-1), 1) := by decide +kernel
theorem dX3_hasSealed_7 : decode cX3_hasSealed 7 = .ok (.if_icmp .eq 7, 3) := by decide +kernel
theorem dX3_hasSealed_10 : decode cX3_hasSealed 10 = .ok (.iconst 1, 1) := by decide +kernel
theorem dX3_hasSealed_11 : decode cX3_hasSealed 11 = .ok (.goto 4, 3) := by decide +kernel
theorem dX3_hasSealed_14 : decode cX3_hasSealed 14 = .ok (.iconst 0, 1) := by decide +kernel
theorem dX3_hasSealed_15 : decode cX3_hasSealed 15 = .ok (.ireturn, 1) := by decide +kernel
theorem dX3_areAllSealed_0 : decode cX3_areAllSealed 0 = .ok (.iconst 0, 1) := by decide +kernel
theorem dX3_areAllSealed_1 : decode cX3_areAllSealed 1 = .ok (.istore_n 1, 1) := by decide +kernel
theorem dX3_areAllSealed_2 : decode cX3_areAllSealed 2 = .ok (.iload_n 1, 1) := by decide +kernel
theorem dX3_areAllSealed_3 : decode cX3_areAllSealed 3 = .ok (.aload_n 0, 1) := by decide +kernel
theorem dX3_areAllSealed_4 : decode cX3_areAllSealed 4 = .ok (.getfield 47, 3) := by decide +kernel
theorem dX3_areAllSealed_7 : decode cX3_areAllSealed 7 = .ok (.if_icmp .ge 27, 3) := by decide +kernel
theorem dX3_areAllSealed_10 : decode cX3_areAllSealed 10 = .ok (.aload_n 0, 1) := by decide +kernel
theorem dX3_areAllSealed_11 : decode cX3_areAllSealed 11 = .ok (.iload_n 1, 1) := by decide +kernel
theorem dX3_areAllSealed_12 : decode cX3_areAllSealed 12 = .ok (.invokevirtual 145, 3) := by decide +kernel
theorem dX3_areAllSealed_15 : decode cX3_areAllSealed 15 = .ok (.ifCond .ne 13, 3) := by decide +kernel
theorem dX3_areAllSealed_18 : decode cX3_areAllSealed 18 = .ok (.aload_n 0, 1) := by decide +kernel
theorem dX3_areAllSealed_19 : decode cX3_areAllSealed 19 = .ok (.iload_n 1, 1) := by decide +kernel
theorem dX3_areAllSealed_20 : decode cX3_areAllSealed 20 = .ok (.invokevirtual 115, 3) := by decide +kernel
theorem dX3_areAllSealed_23 : decode cX3_areAllSealed 23 = .ok (.ifCond .eq 5, 3) := by decide +kernel
theorem dX3_areAllSealed_26 : decode cX3_areAllSealed 26 = .ok (.iconst 0, 1) := by decide +kernel
theorem dX3_areAllSealed_27 : decode cX3_areAllSealed 27 = .ok (.ireturn, 1) := by decide +kernel
theorem dX3_areAllSealed_28 : decode cX3_areAllSealed 28 = .ok (.iinc 1 1, 3) := by decide +kernel
theorem dX3_areAllSealed_31 : decode cX3_areAllSealed 31 = .ok (.goto (-29), 3) := by decide +kernel
theorem dX3_areAllSealed_34 : decode cX3_areAllSealed 34 = .ok (.iconst 1, 1) := by decide +kernel
theorem dX3_areAllSealed_35 : decode cX3_areAllSealed 35 = .ok (.ireturn, 1) := by decide +kernel
theorem dX3_isLogged_0 : decode cX3_isLogged 0 = .ok (.iload_n 1, 1) := by decide +kernel
theorem dX3_isLogged_1 : decode cX3_isLogged 1 = .ok (.ifCond .lt 26, 3) := by decide +kernel
theorem dX3_isLogged_4 : decode cX3_isLogged 4 = .ok (.iload_n 1, 1) := by decide +kernel
theorem dX3_isLogged_5 : decode cX3_isLogged 5 = .ok (.aload_n 0, 1) := by decide +kernel
theorem dX3_isLogged_6 : decode cX3_isLogged 6 = .ok (.getfield 53, 3) := by decide +kernel
theorem dX3_isLogged_9 : decode cX3_isLogged 9 = .ok (.bipush 10, 2) := by decide +kernel
theorem dX3_isLogged_11 : decode cX3_isLogged 11 = .ok (.isub, 1) := by decide +kernel
theorem dX3_isLogged_12 : decode cX3_isLogged 12 = .ok (.if_icmp .lt 15, 3) := by decide +kernel
theorem dX3_isLogged_15 : decode cX3_isLogged 15 = .ok (.iload_n 1, 1) := by decide +kernel
theorem dX3_isLogged_16 : decode cX3_isLogged 16 = .ok (.aload_n 0, 1) := by decide +kernel
theorem dX3_isLogged_17 : decode cX3_isLogged 17 = .ok (.getfield 53, 3) := by decide +kernel
theorem dX3_isLogged_20 : decode cX3_isLogged 20 = .ok (.if_icmp .ge 7, 3) := by decide +kernel
theorem dX3_isLogged_23 : decode cX3_isLogged 23 = .ok (.iconst 1, 1) := by decide +kernel
theorem dX3_isLogged_24 : decode cX3_isLogged 24 = .ok (.goto 4, 3) := by decide +kernel
theorem dX3_isLogged_27 : decode cX3_isLogged 27 = .ok (.iconst 0, 1) := by decide +kernel
theorem dX3_isLogged_28 : decode cX3_isLogged 28 = .ok (.ireturn, 1) := by decide +kernel
theorem dX3_ordersIn_0 : decode cX3_ordersIn 0 = .ok (.aload_n 0, 1) := by decide +kernel
theorem dX3_ordersIn_1 : decode cX3_ordersIn 1 = .ok (.iload_n 1, 1) := by decide +kernel
theorem dX3_ordersIn_2 : decode cX3_ordersIn 2 = .ok (.invokevirtual 148, 3) := by decide +kernel
theorem dX3_ordersIn_5 : decode cX3_ordersIn 5 = .ok (.ifCond .eq 18, 3) := by decide +kernel
theorem dX3_ordersIn_8 : decode cX3_ordersIn 8 = .ok (.aload_n 0, 1) := by decide +kernel
theorem dX3_ordersIn_9 : decode cX3_ordersIn 9 = .ok (.getfield 34, 3) := by decide +kernel
theorem dX3_ordersIn_12 : decode cX3_ordersIn 12 = .ok (.iload_n 1, 1) := by decide +kernel
theorem dX3_ordersIn_13 : decode cX3_ordersIn 13 = .ok (.bipush 10, 2) := by decide +kernel
theorem dX3_ordersIn_15 : decode cX3_ordersIn 15 = .ok (.irem, 1) := by decide +kernel
theorem dX3_ordersIn_16 : decode cX3_ordersIn 16 = .ok (.bipush 12, 2) := by decide +kernel
theorem dX3_ordersIn_18 : decode cX3_ordersIn 18 = .ok (.imul, 1) := by decide +kernel
theorem dX3_ordersIn_19 : decode cX3_ordersIn 19 = .ok (.iload_n 2, 1) := by decide +kernel
theorem dX3_ordersIn_20 : decode cX3_ordersIn 20 = .ok (.iadd, 1) := by decide +kernel
theorem dX3_ordersIn_21 : decode cX3_ordersIn 21 = .ok (.iaload, 1) := by decide +kernel
theorem dX3_ordersIn_22 : decode cX3_ordersIn 22 = .ok (.ireturn, 1) := by decide +kernel
theorem dX3_ordersIn_23 : decode cX3_ordersIn 23 = .ok (.aload_n 0, 1) := by decide +kernel
theorem dX3_ordersIn_24 : decode cX3_ordersIn 24 = .ok (.iload_n 2, 1) := by decide +kernel
theorem dX3_ordersIn_25 : decode cX3_ordersIn 25 = .ok (.invokevirtual 103, 3) := by decide +kernel
theorem dX3_ordersIn_28 : decode cX3_ordersIn 28 = .ok (.ifCond .eq 12, 3) := by decide +kernel
theorem dX3_ordersIn_31 : decode cX3_ordersIn 31 = .ok (.aload_n 0, 1) := by decide +kernel
theorem dX3_ordersIn_32 : decode cX3_ordersIn 32 = .ok (.getfield 19, 3) := by decide +kernel
theorem dX3_ordersIn_35 : decode cX3_ordersIn 35 = .ok (.iload_n 2, 1) := by decide +kernel
theorem dX3_ordersIn_36 : decode cX3_ordersIn 36 = .ok (.iaload, 1) := by decide +kernel
theorem dX3_ordersIn_37 : decode cX3_ordersIn 37 = .ok (.goto 4, 3) := by decide +kernel
theorem dX3_ordersIn_40 : decode cX3_ordersIn 40 = .ok (.iconst 0, 1) := by decide +kernel
theorem dX3_ordersIn_41 : decode cX3_ordersIn 41 = .ok (.ireturn, 1) := by decide +kernel
theorem dX3_sealIn_0 : decode cX3_sealIn 0 = .ok (.aload_n 0, 1) := by decide +kernel
theorem dX3_sealIn_1 : decode cX3_sealIn 1 = .ok (.iload_n 1, 1) := by decide +kernel
theorem dX3_sealIn_2 : decode cX3_sealIn 2 = .ok (.invokevirtual 148, 3) := by decide +kernel
theorem dX3_sealIn_5 : decode cX3_sealIn 5 = .ok (.ifCond .eq 19, 3) := by decide +kernel
theorem dX3_sealIn_8 : decode cX3_sealIn 8 = .ok (.aload_n 0, 1) := by decide +kernel
theorem dX3_sealIn_9 : decode cX3_sealIn 9 = .ok (.getfield 37, 3) := by decide +kernel
theorem dX3_sealIn_12 : decode cX3_sealIn 12 = .ok (.iload_n 1, 1) := by decide +kernel
theorem dX3_sealIn_13 : decode cX3_sealIn 13 = .ok (.bipush 10, 2) := by decide +kernel
theorem dX3_sealIn_15 : decode cX3_sealIn 15 = .ok (.irem, 1) := by decide +kernel
theorem dX3_sealIn_16 : decode cX3_sealIn 16 = .ok (.iconst 4, 1) := by decide +kernel
theorem dX3_sealIn_17 : decode cX3_sealIn 17 = .ok (.imul, 1) := by decide +kernel
theorem dX3_sealIn_18 : decode cX3_sealIn 18 = .ok (.iload_n 2, 1) := by decide +kernel
theorem dX3_sealIn_19 : decode cX3_sealIn 19 = .ok (.iadd, 1) := by decide +kernel
theorem dX3_sealIn_20 : decode cX3_sealIn 20 = .ok (.iaload, 1) := by decide +kernel
theorem dX3_sealIn_21 : decode cX3_sealIn 21 = .ok (.goto 9, 3) := by decide +kernel
theorem dX3_sealIn_24 : decode cX3_sealIn 24 = .ok (.aload_n 0, 1) := by decide +kernel
theorem dX3_sealIn_25 : decode cX3_sealIn 25 = .ok (.getfield 31, 3) := by decide +kernel
theorem dX3_sealIn_28 : decode cX3_sealIn 28 = .ok (.iload_n 2, 1) := by decide +kernel
theorem dX3_sealIn_29 : decode cX3_sealIn 29 = .ok (.iaload, 1) := by decide +kernel
theorem dX3_sealIn_30 : decode cX3_sealIn 30 = .ok (.ireturn, 1) := by decide +kernel
theorem dX3_sealBy_0 : decode cX3_sealBy 0 = .ok (.iload_n 3, 1) := by decide +kernel
theorem dX3_sealBy_1 : decode cX3_sealBy 1 = .ok (.istore 4, 2) := by decide +kernel
theorem dX3_sealBy_3 : decode cX3_sealBy 3 = .ok (.iconst 0, 1) := by decide +kernel
theorem dX3_sealBy_4 : decode cX3_sealBy 4 = .ok (.istore 5, 2) := by decide +kernel
theorem dX3_sealBy_6 : decode cX3_sealBy 6 = .ok (.iload 5, 2) := by decide +kernel
theorem dX3_sealBy_8 : decode cX3_sealBy 8 = .ok (.aload_n 0, 1) := by decide +kernel
theorem dX3_sealBy_9 : decode cX3_sealBy 9 = .ok (.getfield 50, 3) := by decide +kernel
theorem dX3_sealBy_12 : decode cX3_sealBy 12 = .ok (.if_icmp .ge 68, 3) := by decide +kernel
theorem dX3_sealBy_15 : decode cX3_sealBy 15 = .ok (.aload_n 0, 1) := by decide +kernel
theorem dX3_sealBy_16 : decode cX3_sealBy 16 = .ok (.iload_n 1, 1) := by decide +kernel
theorem dX3_sealBy_17 : decode cX3_sealBy 17 = .ok (.iload 5, 2) := by decide +kernel
theorem dX3_sealBy_19 : decode cX3_sealBy 19 = .ok (.invokevirtual 151, 3) := by decide +kernel
theorem dX3_sealBy_22 : decode cX3_sealBy 22 = .ok (.istore 6, 2) := by decide +kernel
theorem dX3_sealBy_24 : decode cX3_sealBy 24 = .ok (.iload 6, 2) := by decide +kernel
theorem dX3_sealBy_26 : decode cX3_sealBy 26 = .ok (.ifCond .eq 48, 3) := by decide +kernel
theorem dX3_sealBy_29 : decode cX3_sealBy 29 = .ok (.aload_n 0, 1) := by decide +kernel
theorem dX3_sealBy_30 : decode cX3_sealBy 30 = .ok (.iload 5, 2) := by decide +kernel
theorem dX3_sealBy_32 : decode cX3_sealBy 32 = .ok (.iconst 0, 1) := by decide +kernel
theorem dX3_sealBy_33 : decode cX3_sealBy 33 = .ok (.invokevirtual 100, 3) := by decide +kernel
theorem dX3_sealBy_36 : decode cX3_sealBy 36 = .ok (.iload_n 2, 1) := by decide +kernel
theorem dX3_sealBy_37 : decode cX3_sealBy 37 = .ok (.if_icmp .ne 37, 3) := by decide +kernel
theorem dX3_sealBy_40 : decode cX3_sealBy 40 = .ok (.iconst 0, 1) := by decide +kernel
theorem dX3_sealBy_41 : decode cX3_sealBy 41 = .ok (.istore 7, 2) := by decide +kernel
theorem dX3_sealBy_43 : decode cX3_sealBy 43 = .ok (.iload 7, 2) := by decide +kernel
theorem dX3_sealBy_45 : decode cX3_sealBy 45 = .ok (.bipush 6, 2) := by decide +kernel
theorem dX3_sealBy_47 : decode cX3_sealBy 47 = .ok (.if_icmp .ge 27, 3) := by decide +kernel
theorem dX3_sealBy_50 : decode cX3_sealBy 50 = .ok (.bipush 31, 2) := by decide +kernel
theorem dX3_sealBy_52 : decode cX3_sealBy 52 = .ok (.iload 4, 2) := by decide +kernel
theorem dX3_sealBy_54 : decode cX3_sealBy 54 = .ok (.imul, 1) := by decide +kernel
theorem dX3_sealBy_55 : decode cX3_sealBy 55 = .ok (.iload 6, 2) := by decide +kernel
theorem dX3_sealBy_57 : decode cX3_sealBy 57 = .ok (.iload 7, 2) := by decide +kernel
theorem dX3_sealBy_59 : decode cX3_sealBy 59 = .ok (.invokestatic 124, 3) := by decide +kernel
theorem dX3_sealBy_62 : decode cX3_sealBy 62 = .ok (.iadd, 1) := by decide +kernel
theorem dX3_sealBy_63 : decode cX3_sealBy 63 = .ok (.ldc 154, 2) := by decide +kernel
theorem dX3_sealBy_65 : decode cX3_sealBy 65 = .ok (.irem, 1) := by decide +kernel
theorem dX3_sealBy_66 : decode cX3_sealBy 66 = .ok (.istore 4, 2) := by decide +kernel
theorem dX3_sealBy_68 : decode cX3_sealBy 68 = .ok (.iinc 7 1, 3) := by decide +kernel
theorem dX3_sealBy_71 : decode cX3_sealBy 71 = .ok (.goto (-28), 3) := by decide +kernel
theorem dX3_sealBy_74 : decode cX3_sealBy 74 = .ok (.iinc 5 1, 3) := by decide +kernel
theorem dX3_sealBy_77 : decode cX3_sealBy 77 = .ok (.goto (-71), 3) := by decide +kernel
theorem dX3_sealBy_80 : decode cX3_sealBy 80 = .ok (.iload 4, 2) := by decide +kernel
theorem dX3_sealBy_82 : decode cX3_sealBy 82 = .ok (.ireturn, 1) := by decide +kernel
theorem dX3_logTurn_0 : decode cX3_logTurn 0 = .ok (.iconst 0, 1) := by decide +kernel
theorem dX3_logTurn_1 : decode cX3_logTurn 1 = .ok (.aload_n 0, 1) := by decide +kernel
theorem dX3_logTurn_2 : decode cX3_logTurn 2 = .ok (.getfield 53, 3) := by decide +kernel
theorem dX3_logTurn_5 : decode cX3_logTurn 5 = .ok (.invokestatic 155, 3) := by decide +kernel
theorem dX3_logTurn_8 : decode cX3_logTurn 8 = .ok (.bipush 10, 2) := by decide +kernel
theorem dX3_logTurn_10 : decode cX3_logTurn 10 = .ok (.irem, 1) := by decide +kernel
theorem dX3_logTurn_11 : decode cX3_logTurn 11 = .ok (.istore_n 1, 1) := by decide +kernel
theorem dX3_logTurn_12 : decode cX3_logTurn 12 = .ok (.iconst 0, 1) := by decide +kernel
theorem dX3_logTurn_13 : decode cX3_logTurn 13 = .ok (.istore_n 2, 1) := by decide +kernel
theorem dX3_logTurn_14 : decode cX3_logTurn 14 = .ok (.iload_n 2, 1) := by decide +kernel
theorem dX3_logTurn_15 : decode cX3_logTurn 15 = .ok (.aload_n 0, 1) := by decide +kernel
theorem dX3_logTurn_16 : decode cX3_logTurn 16 = .ok (.getfield 50, 3) := by decide +kernel
theorem dX3_logTurn_19 : decode cX3_logTurn 19 = .ok (.if_icmp .ge 38, 3) := by decide +kernel
theorem dX3_logTurn_22 : decode cX3_logTurn 22 = .ok (.aload_n 0, 1) := by decide +kernel
theorem dX3_logTurn_23 : decode cX3_logTurn 23 = .ok (.getfield 34, 3) := by decide +kernel
theorem dX3_logTurn_26 : decode cX3_logTurn 26 = .ok (.iload_n 1, 1) := by decide +kernel
theorem dX3_logTurn_27 : decode cX3_logTurn 27 = .ok (.bipush 12, 2) := by decide +kernel
theorem dX3_logTurn_29 : decode cX3_logTurn 29 = .ok (.imul, 1) := by decide +kernel
theorem dX3_logTurn_30 : decode cX3_logTurn 30 = .ok (.iload_n 2, 1) := by decide +kernel
theorem dX3_logTurn_31 : decode cX3_logTurn 31 = .ok (.iadd, 1) := by decide +kernel
theorem dX3_logTurn_32 : decode cX3_logTurn 32 = .ok (.aload_n 0, 1) := by decide +kernel
theorem dX3_logTurn_33 : decode cX3_logTurn 33 = .ok (.iload_n 2, 1) := by decide +kernel
theorem dX3_logTurn_34 : decode cX3_logTurn 34 = .ok (.invokevirtual 103, 3) := by decide +kernel
theorem dX3_logTurn_37 : decode cX3_logTurn 37 = .ok (.ifCond .eq 12, 3) := by decide +kernel
theorem dX3_logTurn_40 : decode cX3_logTurn 40 = .ok (.aload_n 0, 1) := by decide +kernel
theorem dX3_logTurn_41 : decode cX3_logTurn 41 = .ok (.getfield 19, 3) := by decide +kernel
theorem dX3_logTurn_44 : decode cX3_logTurn 44 = .ok (.iload_n 2, 1) := by decide +kernel
theorem dX3_logTurn_45 : decode cX3_logTurn 45 = .ok (.iaload, 1) := by decide +kernel
theorem dX3_logTurn_46 : decode cX3_logTurn 46 = .ok (.goto 4, 3) := by decide +kernel
theorem dX3_logTurn_49 : decode cX3_logTurn 49 = .ok (.iconst 0, 1) := by decide +kernel
theorem dX3_logTurn_50 : decode cX3_logTurn 50 = .ok (.iastore, 1) := by decide +kernel
theorem dX3_logTurn_51 : decode cX3_logTurn 51 = .ok (.iinc 2 1, 3) := by decide +kernel
theorem dX3_logTurn_54 : decode cX3_logTurn 54 = .ok (.goto (-40), 3) := by decide +kernel
theorem dX3_logTurn_57 : decode cX3_logTurn 57 = .ok (.iconst 0, 1) := by decide +kernel
theorem dX3_logTurn_58 : decode cX3_logTurn 58 = .ok (.istore_n 2, 1) := by decide +kernel
theorem dX3_logTurn_59 : decode cX3_logTurn 59 = .ok (.iload_n 2, 1) := by decide +kernel
theorem dX3_logTurn_60 : decode cX3_logTurn 60 = .ok (.aload_n 0, 1) := by decide +kernel
theorem dX3_logTurn_61 : decode cX3_logTurn 61 = .ok (.getfield 47, 3) := by decide +kernel
theorem dX3_logTurn_64 : decode cX3_logTurn 64 = .ok (.if_icmp .ge 25, 3) := by decide +kernel
theorem dX3_logTurn_67 : decode cX3_logTurn 67 = .ok (.aload_n 0, 1) := by decide +kernel
theorem dX3_logTurn_68 : decode cX3_logTurn 68 = .ok (.getfield 37, 3) := by decide +kernel
theorem dX3_logTurn_71 : decode cX3_logTurn 71 = .ok (.iload_n 1, 1) := by decide +kernel
theorem dX3_logTurn_72 : decode cX3_logTurn 72 = .ok (.iconst 4, 1) := by decide +kernel
theorem dX3_logTurn_73 : decode cX3_logTurn 73 = .ok (.imul, 1) := by decide +kernel
theorem dX3_logTurn_74 : decode cX3_logTurn 74 = .ok (.iload_n 2, 1) := by decide +kernel
theorem dX3_logTurn_75 : decode cX3_logTurn 75 = .ok (.iadd, 1) := by decide +kernel
theorem dX3_logTurn_76 : decode cX3_logTurn 76 = .ok (.aload_n 0, 1) := by decide +kernel
theorem dX3_logTurn_77 : decode cX3_logTurn 77 = .ok (.getfield 31, 3) := by decide +kernel
theorem dX3_logTurn_80 : decode cX3_logTurn 80 = .ok (.iload_n 2, 1) := by decide +kernel
theorem dX3_logTurn_81 : decode cX3_logTurn 81 = .ok (.iaload, 1) := by decide +kernel
theorem dX3_logTurn_82 : decode cX3_logTurn 82 = .ok (.iastore, 1) := by decide +kernel
theorem dX3_logTurn_83 : decode cX3_logTurn 83 = .ok (.iinc 2 1, 3) := by decide +kernel
theorem dX3_logTurn_86 : decode cX3_logTurn 86 = .ok (.goto (-27), 3) := by decide +kernel
theorem dX3_logTurn_89 : decode cX3_logTurn 89 = .ok (.return_, 1) := by decide +kernel
theorem dX3_keepRam_0 : decode cX3_keepRam 0 = .ok (.aload_n 0, 1) := by decide +kernel
theorem dX3_keepRam_1 : decode cX3_keepRam 1 = .ok (.getfield 65, 3) := by decide +kernel
theorem dX3_keepRam_4 : decode cX3_keepRam 4 = .ok (.bipush 30, 2) := by decide +kernel
theorem dX3_keepRam_6 : decode cX3_keepRam 6 = .ok (.if_icmp .lt 4, 3) := by decide +kernel
theorem dX3_keepRam_9 : decode cX3_keepRam 9 = .ok (.return_, 1) := by decide +kernel
theorem dX3_keepRam_10 : decode cX3_keepRam 10 = .ok (.aload_n 0, 1) := by decide +kernel
theorem dX3_keepRam_11 : decode cX3_keepRam 11 = .ok (.getfield 65, 3) := by decide +kernel
theorem dX3_keepRam_14 : decode cX3_keepRam 14 = .ok (.iconst 5, 1) := by decide +kernel
theorem dX3_keepRam_15 : decode cX3_keepRam 15 = .ok (.imul, 1) := by decide +kernel
theorem dX3_keepRam_16 : decode cX3_keepRam 16 = .ok (.istore 6, 2) := by decide +kernel
theorem dX3_keepRam_18 : decode cX3_keepRam 18 = .ok (.aload_n 0, 1) := by decide +kernel
theorem dX3_keepRam_19 : decode cX3_keepRam 19 = .ok (.getfield 25, 3) := by decide +kernel
theorem dX3_keepRam_22 : decode cX3_keepRam 22 = .ok (.iload 6, 2) := by decide +kernel
theorem dX3_keepRam_24 : decode cX3_keepRam 24 = .ok (.iload_n 1, 1) := by decide +kernel
theorem dX3_keepRam_25 : decode cX3_keepRam 25 = .ok (.iastore, 1) := by decide +kernel
theorem dX3_keepRam_26 : decode cX3_keepRam 26 = .ok (.aload_n 0, 1) := by decide +kernel
theorem dX3_keepRam_27 : decode cX3_keepRam 27 = .ok (.getfield 25, 3) := by decide +kernel
theorem dX3_keepRam_30 : decode cX3_keepRam 30 = .ok (.iload 6, 2) := by decide +kernel
theorem dX3_keepRam_32 : decode cX3_keepRam 32 = .ok (.iconst 1, 1) := by decide +kernel
theorem dX3_keepRam_33 : decode cX3_keepRam 33 = .ok (.iadd, 1) := by decide +kernel
theorem dX3_keepRam_34 : decode cX3_keepRam 34 = .ok (.iload_n 2, 1) := by decide +kernel
theorem dX3_keepRam_35 : decode cX3_keepRam 35 = .ok (.iastore, 1) := by decide +kernel
theorem dX3_keepRam_36 : decode cX3_keepRam 36 = .ok (.aload_n 0, 1) := by decide +kernel
theorem dX3_keepRam_37 : decode cX3_keepRam 37 = .ok (.getfield 25, 3) := by decide +kernel
theorem dX3_keepRam_40 : decode cX3_keepRam 40 = .ok (.iload 6, 2) := by decide +kernel
theorem dX3_keepRam_42 : decode cX3_keepRam 42 = .ok (.iconst 2, 1) := by decide +kernel
theorem dX3_keepRam_43 : decode cX3_keepRam 43 = .ok (.iadd, 1) := by decide +kernel
theorem dX3_keepRam_44 : decode cX3_keepRam 44 = .ok (.iload_n 3, 1) := by decide +kernel
theorem dX3_keepRam_45 : decode cX3_keepRam 45 = .ok (.iastore, 1) := by decide +kernel
theorem dX3_keepRam_46 : decode cX3_keepRam 46 = .ok (.aload_n 0, 1) := by decide +kernel
theorem dX3_keepRam_47 : decode cX3_keepRam 47 = .ok (.getfield 25, 3) := by decide +kernel
theorem dX3_keepRam_50 : decode cX3_keepRam 50 = .ok (.iload 6, 2) := by decide +kernel
theorem dX3_keepRam_52 : decode cX3_keepRam 52 = .ok (.iconst 3, 1) := by decide +kernel
theorem dX3_keepRam_53 : decode cX3_keepRam 53 = .ok (.iadd, 1) := by decide +kernel
theorem dX3_keepRam_54 : decode cX3_keepRam 54 = .ok (.iload 4, 2) := by decide +kernel
theorem dX3_keepRam_56 : decode cX3_keepRam 56 = .ok (.iastore, 1) := by decide +kernel
theorem dX3_keepRam_57 : decode cX3_keepRam 57 = .ok (.aload_n 0, 1) := by decide +kernel
theorem dX3_keepRam_58 : decode cX3_keepRam 58 = .ok (.getfield 25, 3) := by decide +kernel
theorem dX3_keepRam_61 : decode cX3_keepRam 61 = .ok (.iload 6, 2) := by decide +kernel
theorem dX3_keepRam_63 : decode cX3_keepRam 63 = .ok (.iconst 4, 1) := by decide +kernel
theorem dX3_keepRam_64 : decode cX3_keepRam 64 = .ok (.iadd, 1) := by decide +kernel
theorem dX3_keepRam_65 : decode cX3_keepRam 65 = .ok (.iload 5, 2) := by decide +kernel
theorem dX3_keepRam_67 : decode cX3_keepRam 67 = .ok (.iastore, 1) := by decide +kernel
theorem dX3_keepRam_68 : decode cX3_keepRam 68 = .ok (.aload_n 0, 1) := by decide +kernel
theorem dX3_keepRam_69 : decode cX3_keepRam 69 = .ok (.dup, 1) := by decide +kernel
theorem dX3_keepRam_70 : decode cX3_keepRam 70 = .ok (.getfield 65, 3) := by decide +kernel
theorem dX3_keepRam_73 : decode cX3_keepRam 73 = .ok (.iconst 1, 1) := by decide +kernel
theorem dX3_keepRam_74 : decode cX3_keepRam 74 = .ok (.iadd, 1) := by decide +kernel
theorem dX3_keepRam_75 : decode cX3_keepRam 75 = .ok (.putfield 65, 3) := by decide +kernel
theorem dX3_keepRam_78 : decode cX3_keepRam 78 = .ok (.return_, 1) := by decide +kernel
theorem dX4_init_0 : decode cX4_init 0 = .ok (.aload_n 0, 1) := by decide +kernel
theorem dX4_init_1 : decode cX4_init 1 = .ok (.invokespecial 1, 3) := by decide +kernel
theorem dX4_init_4 : decode cX4_init 4 = .ok (.aload_n 0, 1) := by decide +kernel
theorem dX4_init_5 : decode cX4_init 5 = .ok (.iconst 0, 1) := by decide +kernel
theorem dX4_init_6 : decode cX4_init 6 = .ok (.iload_n 1, 1) := by decide +kernel
theorem dX4_init_7 : decode cX4_init 7 = .ok (.invokestatic 7, 3) := by decide +kernel
theorem dX4_init_10 : decode cX4_init 10 = .ok (.anewarray 13, 3) := by decide +kernel
theorem dX4_init_13 : decode cX4_init 13 = .ok (.putfield 15, 3) := by decide +kernel
theorem dX4_init_16 : decode cX4_init 16 = .ok (.iconst 0, 1) := by decide +kernel
theorem dX4_init_17 : decode cX4_init 17 = .ok (.istore_n 2, 1) := by decide +kernel
theorem dX4_init_18 : decode cX4_init 18 = .ok (.iload_n 2, 1) := by decide +kernel
theorem dX4_init_19 : decode cX4_init 19 = .ok (.aload_n 0, 1) := by decide +kernel
theorem dX4_init_20 : decode cX4_init 20 = .ok (.getfield 15, 3) := by decide +kernel
theorem dX4_init_23 : decode cX4_init 23 = .ok (.arraylength, 1) := by decide +kernel
theorem dX4_init_24 : decode cX4_init 24 = .ok (.if_icmp .ge 22, 3) := by decide +kernel
theorem dX4_init_27 : decode cX4_init 27 = .ok (.aload_n 0, 1) := by decide +kernel
theorem dX4_init_28 : decode cX4_init 28 = .ok (.getfield 15, 3) := by decide +kernel
theorem dX4_init_31 : decode cX4_init 31 = .ok (.iload_n 2, 1) := by decide +kernel
theorem dX4_init_32 : decode cX4_init 32 = .ok (.new 13, 3) := by decide +kernel
theorem dX4_init_35 : decode cX4_init 35 = .ok (.dup, 1) := by decide +kernel
theorem dX4_init_36 : decode cX4_init 36 = .ok (.invokespecial 21, 3) := by decide +kernel
theorem dX4_init_39 : decode cX4_init 39 = .ok (.aastore, 1) := by decide +kernel
theorem dX4_init_40 : decode cX4_init 40 = .ok (.iinc 2 1, 3) := by decide +kernel
theorem dX4_init_43 : decode cX4_init 43 = .ok (.goto (-25), 3) := by decide +kernel
theorem dX4_init_46 : decode cX4_init 46 = .ok (.return_, 1) := by decide +kernel
theorem dX4_put_0 : decode cX4_put 0 = .ok (.aload_n 0, 1) := by decide +kernel
theorem dX4_put_1 : decode cX4_put 1 = .ok (.iload_n 1, 1) := by decide +kernel
theorem dX4_put_2 : decode cX4_put 2 = .ok (.invokevirtual 22, 3) := by decide +kernel
theorem dX4_put_5 : decode cX4_put 5 = .ok (.astore_n 3, 1) := by decide +kernel
theorem dX4_put_6 : decode cX4_put 6 = .ok (.aload_n 3, 1) := by decide +kernel
theorem dX4_put_7 : decode cX4_put 7 = .ok (.ifnull 8, 3) := by decide +kernel
theorem dX4_put_10 : decode cX4_put 10 = .ok (.aload_n 3, 1) := by decide +kernel
theorem dX4_put_11 : decode cX4_put 11 = .ok (.aload_n 2, 1) := by decide +kernel
theorem dX4_put_12 : decode cX4_put 12 = .ok (.invokevirtual 26, 3) := by decide +kernel
theorem dX4_put_15 : decode cX4_put 15 = .ok (.return_, 1) := by decide +kernel
theorem dX4_take_0 : decode cX4_take 0 = .ok (.aload_n 0, 1) := by decide +kernel
theorem dX4_take_1 : decode cX4_take 1 = .ok (.iload_n 1, 1) := by decide +kernel
theorem dX4_take_2 : decode cX4_take 2 = .ok (.invokevirtual 22, 3) := by decide +kernel
theorem dX4_take_5 : decode cX4_take 5 = .ok (.astore_n 3, 1) := by decide +kernel
theorem dX4_take_6 : decode cX4_take 6 = .ok (.aload_n 3, 1) := by decide +kernel
theorem dX4_take_7 : decode cX4_take 7 = .ok (.ifnull 8, 3) := by decide +kernel
theorem dX4_take_10 : decode cX4_take 10 = .ok (.aload_n 2, 1) := by decide +kernel
theorem dX4_take_11 : decode cX4_take 11 = .ok (.aload_n 3, 1) := by decide +kernel
theorem dX4_take_12 : decode cX4_take 12 = .ok (.invokevirtual 26, 3) := by decide +kernel
theorem dX4_take_15 : decode cX4_take 15 = .ok (.return_, 1) := by decide +kernel
theorem dX4_sheetAt_0 : decode cX4_sheetAt 0 = .ok (.iload_n 1, 1) := by decide +kernel
theorem dX4_sheetAt_1 : decode cX4_sheetAt 1 = .ok (.ifCond .lt 21, 3) := by decide +kernel
theorem dX4_sheetAt_4 : decode cX4_sheetAt 4 = .ok (.iload_n 1, 1) := by decide +kernel
theorem dX4_sheetAt_5 : decode cX4_sheetAt 5 = .ok (.aload_n 0, 1) := by decide +kernel
theorem dX4_sheetAt_6 : decode cX4_sheetAt 6 = .ok (.getfield 15, 3) := by decide +kernel
theorem dX4_sheetAt_9 : decode cX4_sheetAt 9 = .ok (.arraylength, 1) := by decide +kernel
theorem dX4_sheetAt_10 : decode cX4_sheetAt 10 = .ok (.if_icmp .ge 12, 3) := by decide +kernel
theorem dX4_sheetAt_13 : decode cX4_sheetAt 13 = .ok (.aload_n 0, 1) := by decide +kernel
theorem dX4_sheetAt_14 : decode cX4_sheetAt 14 = .ok (.getfield 15, 3) := by decide +kernel
theorem dX4_sheetAt_17 : decode cX4_sheetAt 17 = .ok (.iload_n 1, 1) := by decide +kernel
theorem dX4_sheetAt_18 : decode cX4_sheetAt 18 = .ok (.aaload, 1) := by decide +kernel
theorem dX4_sheetAt_19 : decode cX4_sheetAt 19 = .ok (.goto 4, 3) := by decide +kernel
theorem dX4_sheetAt_22 : decode cX4_sheetAt 22 = .ok (.aconst_null, 1) := by decide +kernel
theorem dX4_sheetAt_23 : decode cX4_sheetAt 23 = .ok (.areturn, 1) := by decide +kernel
theorem dX5_init_0 : decode cX5_init 0 = .ok (.aload_n 0, 1) := by decide +kernel
theorem dX5_init_1 : decode cX5_init 1 = .ok (.invokespecial 3, 3) := by decide +kernel
theorem dX5_init_4 : decode cX5_init 4 = .ok (.aload_n 0, 1) := by decide +kernel
theorem dX5_init_5 : decode cX5_init 5 = .ok (.sipush 600, 3) := by decide +kernel
theorem dX5_init_8 : decode cX5_init 8 = .ok (.newarray .int, 2) := by decide +kernel
theorem dX5_init_10 : decode cX5_init 10 = .ok (.putfield 9, 3) := by decide +kernel
theorem dX5_init_13 : decode cX5_init 13 = .ok (.aload_n 0, 1) := by decide +kernel
theorem dX5_init_14 : decode cX5_init 14 = .ok (.iconst (-1), 1) := by decide +kernel
theorem dX5_init_15 : decode cX5_init 15 = .ok (.putfield 15, 3) := by decide +kernel
theorem dX5_init_18 : decode cX5_init 18 = .ok (.return_, 1) := by decide +kernel
theorem dX5_addBytes_0 : decode cX5_addBytes 0 = .ok (.bipush 24, 2) := by decide +kernel
theorem dX5_addBytes_2 : decode cX5_addBytes 2 = .ok (.istore_n 2, 1) := by decide +kernel
theorem dX5_addBytes_3 : decode cX5_addBytes 3 = .ok (.iload_n 2, 1) := by decide +kernel
theorem dX5_addBytes_4 : decode cX5_addBytes 4 = .ok (.ifCond .lt 51, 3) := by decide +kernel
theorem dX5_addBytes_7 : decode cX5_addBytes 7 = .ok (.iload_n 1, 1) := by decide +kernel
theorem dX5_addBytes_8 : decode cX5_addBytes 8 = .ok (.iload_n 2, 1) := by decide +kernel
theorem dX5_addBytes_9 : decode cX5_addBytes 9 = .ok (.ishr, 1) := by decide +kernel
theorem dX5_addBytes_10 : decode cX5_addBytes 10 = .ok (.sipush 255, 3) := by decide +kernel
theorem dX5_addBytes_13 : decode cX5_addBytes 13 = .ok (.iand, 1) := by decide +kernel
theorem dX5_addBytes_14 : decode cX5_addBytes 14 = .ok (.istore_n 3, 1) := by decide +kernel
theorem dX5_addBytes_15 : decode cX5_addBytes 15 = .ok (.iload_n 3, 1) := by decide +kernel
theorem dX5_addBytes_16 : decode cX5_addBytes 16 = .ok (.ifCond .eq 33, 3) := by decide +kernel
theorem dX5_addBytes_19 : decode cX5_addBytes 19 = .ok (.aload_n 0, 1) := by decide +kernel
theorem dX5_addBytes_20 : decode cX5_addBytes 20 = .ok (.getfield 19, 3) := by decide +kernel
theorem dX5_addBytes_23 : decode cX5_addBytes 23 = .ok (.sipush 600, 3) := by decide +kernel
theorem dX5_addBytes_26 : decode cX5_addBytes 26 = .ok (.if_icmp .ge 23, 3) := by decide +kernel
theorem dX5_addBytes_29 : decode cX5_addBytes 29 = .ok (.aload_n 0, 1) := by decide +kernel
theorem dX5_addBytes_30 : decode cX5_addBytes 30 = .ok (.getfield 9, 3) := by decide +kernel
theorem dX5_addBytes_33 : decode cX5_addBytes 33 = .ok (.aload_n 0, 1) := by decide +kernel
theorem dX5_addBytes_34 : decode cX5_addBytes 34 = .ok (.getfield 19, 3) := by decide +kernel
theorem dX5_addBytes_37 : decode cX5_addBytes 37 = .ok (.iload_n 3, 1) := by decide +kernel
theorem dX5_addBytes_38 : decode cX5_addBytes 38 = .ok (.iastore, 1) := by decide +kernel
theorem dX5_addBytes_39 : decode cX5_addBytes 39 = .ok (.aload_n 0, 1) := by decide +kernel
theorem dX5_addBytes_40 : decode cX5_addBytes 40 = .ok (.dup, 1) := by decide +kernel
theorem dX5_addBytes_41 : decode cX5_addBytes 41 = .ok (.getfield 19, 3) := by decide +kernel
theorem dX5_addBytes_44 : decode cX5_addBytes 44 = .ok (.iconst 1, 1) := by decide +kernel
theorem dX5_addBytes_45 : decode cX5_addBytes 45 = .ok (.iadd, 1) := by decide +kernel
theorem dX5_addBytes_46 : decode cX5_addBytes 46 = .ok (.putfield 19, 3) := by decide +kernel
theorem dX5_addBytes_49 : decode cX5_addBytes 49 = .ok (.iinc 2 (-8), 3) := by decide +kernel
theorem dX5_addBytes_52 : decode cX5_addBytes 52 = .ok (.goto (-49), 3) := by decide +kernel
theorem dX5_addBytes_55 : decode cX5_addBytes 55 = .ok (.return_, 1) := by decide +kernel
theorem dX5_begin_0 : decode cX5_begin 0 = .ok (.aload_n 0, 1) := by decide +kernel
theorem dX5_begin_1 : decode cX5_begin 1 = .ok (.iconst 0, 1) := by decide +kernel
theorem dX5_begin_2 : decode cX5_begin 2 = .ok (.putfield 22, 3) := by decide +kernel
theorem dX5_begin_5 : decode cX5_begin 5 = .ok (.aload_n 0, 1) := by decide +kernel
theorem dX5_begin_6 : decode cX5_begin 6 = .ok (.iconst 0, 1) := by decide +kernel
theorem dX5_begin_7 : decode cX5_begin 7 = .ok (.putfield 25, 3) := by decide +kernel
theorem dX5_begin_10 : decode cX5_begin 10 = .ok (.aload_n 0, 1) := by decide +kernel
theorem dX5_begin_11 : decode cX5_begin 11 = .ok (.iconst 0, 1) := by decide +kernel
theorem dX5_begin_12 : decode cX5_begin 12 = .ok (.putfield 28, 3) := by decide +kernel
theorem dX5_begin_15 : decode cX5_begin 15 = .ok (.aload_n 0, 1) := by decide +kernel
theorem dX5_begin_16 : decode cX5_begin 16 = .ok (.iconst (-1), 1) := by decide +kernel
theorem dX5_begin_17 : decode cX5_begin 17 = .ok (.putfield 15, 3) := by decide +kernel
theorem dX5_begin_20 : decode cX5_begin 20 = .ok (.return_, 1) := by decide +kernel
theorem dX5_fail_0 : decode cX5_fail 0 = .ok (.aload_n 0, 1) := by decide +kernel
theorem dX5_fail_1 : decode cX5_fail 1 = .ok (.iload_n 1, 1) := by decide +kernel
theorem dX5_fail_2 : decode cX5_fail 2 = .ok (.putfield 28, 3) := by decide +kernel
theorem dX5_fail_5 : decode cX5_fail 5 = .ok (.aload_n 0, 1) := by decide +kernel
theorem dX5_fail_6 : decode cX5_fail 6 = .ok (.iload_n 2, 1) := by decide +kernel
theorem dX5_fail_7 : decode cX5_fail 7 = .ok (.putfield 15, 3) := by decide +kernel
theorem dX5_fail_10 : decode cX5_fail 10 = .ok (.iconst 0, 1) := by decide +kernel
theorem dX5_fail_11 : decode cX5_fail 11 = .ok (.ireturn, 1) := by decide +kernel
theorem dX5_failHere_0 : decode cX5_failHere 0 = .ok (.aload_n 0, 1) := by decide +kernel
theorem dX5_failHere_1 : decode cX5_failHere 1 = .ok (.iload_n 1, 1) := by decide +kernel
theorem dX5_failHere_2 : decode cX5_failHere 2 = .ok (.putfield 28, 3) := by decide +kernel
theorem dX5_failHere_5 : decode cX5_failHere 5 = .ok (.aload_n 0, 1) := by decide +kernel
theorem dX5_failHere_6 : decode cX5_failHere 6 = .ok (.aload_n 0, 1) := by decide +kernel
theorem dX5_failHere_7 : decode cX5_failHere 7 = .ok (.getfield 22, 3) := by decide +kernel
theorem dX5_failHere_10 : decode cX5_failHere 10 = .ok (.putfield 15, 3) := by decide +kernel
theorem dX5_failHere_13 : decode cX5_failHere 13 = .ok (.iconst 0, 1) := by decide +kernel
theorem dX5_failHere_14 : decode cX5_failHere 14 = .ok (.ireturn, 1) := by decide +kernel
theorem dX5_byteAt_0 : decode cX5_byteAt 0 = .ok (.iload_n 1, 1) := by decide +kernel
theorem dX5_byteAt_1 : decode cX5_byteAt 1 = .ok (.ifCond .lt 27, 3) := by decide +kernel
theorem dX5_byteAt_4 : decode cX5_byteAt 4 = .ok (.iload_n 1, 1) := by decide +kernel
theorem dX5_byteAt_5 : decode cX5_byteAt 5 = .ok (.aload_n 0, 1) := by decide +kernel
theorem dX5_byteAt_6 : decode cX5_byteAt 6 = .ok (.getfield 19, 3) := by decide +kernel
theorem dX5_byteAt_9 : decode cX5_byteAt 9 = .ok (.if_icmp .ge 19, 3) := by decide +kernel
theorem dX5_byteAt_12 : decode cX5_byteAt 12 = .ok (.iload_n 1, 1) := by decide +kernel
theorem dX5_byteAt_13 : decode cX5_byteAt 13 = .ok (.sipush 600, 3) := by decide +kernel
theorem dX5_byteAt_16 : decode cX5_byteAt 16 = .ok (.if_icmp .ge 12, 3) := by decide +kernel
theorem dX5_byteAt_19 : decode cX5_byteAt 19 = .ok (.aload_n 0, 1) := by decide +kernel
theorem dX5_byteAt_20 : decode cX5_byteAt 20 = .ok (.getfield 9, 3) := by decide +kernel
theorem dX5_byteAt_23 : decode cX5_byteAt 23 = .ok (.iload_n 1, 1) := by decide +kernel
theorem dX5_byteAt_24 : decode cX5_byteAt 24 = .ok (.iaload, 1) := by decide +kernel
theorem dX5_byteAt_25 : decode cX5_byteAt 25 = .ok (.goto 4, 3) := by decide +kernel
theorem dX5_byteAt_28 : decode cX5_byteAt 28 = .ok (.iconst 0, 1) := by decide +kernel
theorem dX5_byteAt_29 : decode cX5_byteAt 29 = .ok (.ireturn, 1) := by decide +kernel
theorem dX5_skipSpaces_0 : decode cX5_skipSpaces 0 = .ok (.aload_n 0, 1) := by decide +kernel
theorem dX5_skipSpaces_1 : decode cX5_skipSpaces 1 = .ok (.aload_n 0, 1) := by decide +kernel
theorem dX5_skipSpaces_2 : decode cX5_skipSpaces 2 = .ok (.getfield 25, 3) := by decide +kernel
theorem dX5_skipSpaces_5 : decode cX5_skipSpaces 5 = .ok (.putfield 22, 3) := by decide +kernel
theorem dX5_skipSpaces_8 : decode cX5_skipSpaces 8 = .ok (.aload_n 0, 1) := by decide +kernel
theorem dX5_skipSpaces_9 : decode cX5_skipSpaces 9 = .ok (.getfield 22, 3) := by decide +kernel
theorem dX5_skipSpaces_12 : decode cX5_skipSpaces 12 = .ok (.aload_n 0, 1) := by decide +kernel
theorem dX5_skipSpaces_13 : decode cX5_skipSpaces 13 = .ok (.getfield 19, 3) := by decide +kernel
theorem dX5_skipSpaces_16 : decode cX5_skipSpaces 16 = .ok (.if_icmp .ge 30, 3) := by decide +kernel
theorem dX5_skipSpaces_19 : decode cX5_skipSpaces 19 = .ok (.aload_n 0, 1) := by decide +kernel
theorem dX5_skipSpaces_20 : decode cX5_skipSpaces 20 = .ok (.getfield 9, 3) := by decide +kernel
theorem dX5_skipSpaces_23 : decode cX5_skipSpaces 23 = .ok (.aload_n 0, 1) := by decide +kernel
theorem dX5_skipSpaces_24 : decode cX5_skipSpaces 24 = .ok (.getfield 22, 3) := by decide +kernel
theorem dX5_skipSpaces_27 : decode cX5_skipSpaces 27 = .ok (.iaload, 1) := by decide +kernel
theorem dX5_skipSpaces_28 : decode cX5_skipSpaces 28 = .ok (.bipush 32, 2) := by decide +kernel
theorem dX5_skipSpaces_30 : decode cX5_skipSpaces 30 = .ok (.if_icmp .ne 16, 3) := by decide +kernel
theorem dX5_skipSpaces_33 : decode cX5_skipSpaces 33 = .ok (.aload_n 0, 1) := by decide +kernel
theorem dX5_skipSpaces_34 : decode cX5_skipSpaces 34 = .ok (.dup, 1) := by decide +kernel
theorem dX5_skipSpaces_35 : decode cX5_skipSpaces 35 = .ok (.getfield 22, 3) := by decide +kernel
theorem dX5_skipSpaces_38 : decode cX5_skipSpaces 38 = .ok (.iconst 1, 1) := by decide +kernel
theorem dX5_skipSpaces_39 : decode cX5_skipSpaces 39 = .ok (.iadd, 1) := by decide +kernel
theorem dX5_skipSpaces_40 : decode cX5_skipSpaces 40 = .ok (.putfield 22, 3) := by decide +kernel
theorem dX5_skipSpaces_43 : decode cX5_skipSpaces 43 = .ok (.goto (-35), 3) := by decide +kernel
theorem dX5_skipSpaces_46 : decode cX5_skipSpaces 46 = .ok (.aload_n 0, 1) := by decide +kernel
theorem dX5_skipSpaces_47 : decode cX5_skipSpaces 47 = .ok (.aload_n 0, 1) := by decide +kernel
theorem dX5_skipSpaces_48 : decode cX5_skipSpaces 48 = .ok (.getfield 22, 3) := by decide +kernel
theorem dX5_skipSpaces_51 : decode cX5_skipSpaces 51 = .ok (.putfield 25, 3) := by decide +kernel
theorem dX5_skipSpaces_54 : decode cX5_skipSpaces 54 = .ok (.return_, 1) := by decide +kernel
theorem dX5_nextWord_0 : decode cX5_nextWord 0 = .ok (.aload_n 0, 1) := by decide +kernel
theorem dX5_nextWord_1 : decode cX5_nextWord 1 = .ok (.invokevirtual 31, 3) := by decide +kernel
theorem dX5_nextWord_4 : decode cX5_nextWord 4 = .ok (.aload_n 0, 1) := by decide +kernel
theorem dX5_nextWord_5 : decode cX5_nextWord 5 = .ok (.getfield 25, 3) := by decide +kernel
theorem dX5_nextWord_8 : decode cX5_nextWord 8 = .ok (.aload_n 0, 1) := by decide +kernel
theorem dX5_nextWord_9 : decode cX5_nextWord 9 = .ok (.getfield 19, 3) := by decide +kernel
theorem dX5_nextWord_12 : decode cX5_nextWord 12 = .ok (.if_icmp .ge 44, 3) := by decide +kernel
theorem dX5_nextWord_15 : decode cX5_nextWord 15 = .ok (.aload_n 0, 1) := by decide +kernel
theorem dX5_nextWord_16 : decode cX5_nextWord 16 = .ok (.getfield 9, 3) := by decide +kernel
theorem dX5_nextWord_19 : decode cX5_nextWord 19 = .ok (.aload_n 0, 1) := by decide +kernel
theorem dX5_nextWord_20 : decode cX5_nextWord 20 = .ok (.getfield 25, 3) := by decide +kernel
theorem dX5_nextWord_23 : decode cX5_nextWord 23 = .ok (.iaload, 1) := by decide +kernel
theorem dX5_nextWord_24 : decode cX5_nextWord 24 = .ok (.bipush 97, 2) := by decide +kernel
theorem dX5_nextWord_26 : decode cX5_nextWord 26 = .ok (.if_icmp .lt 30, 3) := by decide +kernel
theorem dX5_nextWord_29 : decode cX5_nextWord 29 = .ok (.aload_n 0, 1) := by decide +kernel
theorem dX5_nextWord_30 : decode cX5_nextWord 30 = .ok (.getfield 9, 3) := by decide +kernel
theorem dX5_nextWord_33 : decode cX5_nextWord 33 = .ok (.aload_n 0, 1) := by decide +kernel
theorem dX5_nextWord_34 : decode cX5_nextWord 34 = .ok (.getfield 25, 3) := by decide +kernel
theorem dX5_nextWord_37 : decode cX5_nextWord 37 = .ok (.iaload, 1) := by decide +kernel
theorem dX5_nextWord_38 : decode cX5_nextWord 38 = .ok (.bipush 122, 2) := by decide +kernel
theorem dX5_nextWord_40 : decode cX5_nextWord 40 = .ok (.if_icmp .gt 16, 3) := by decide +kernel
theorem dX5_nextWord_43 : decode cX5_nextWord 43 = .ok (.aload_n 0, 1) := by decide +kernel
theorem dX5_nextWord_44 : decode cX5_nextWord 44 = .ok (.dup, 1) := by decide +kernel
theorem dX5_nextWord_45 : decode cX5_nextWord 45 = .ok (.getfield 25, 3) := by decide +kernel
theorem dX5_nextWord_48 : decode cX5_nextWord 48 = .ok (.iconst 1, 1) := by decide +kernel
theorem dX5_nextWord_49 : decode cX5_nextWord 49 = .ok (.iadd, 1) := by decide +kernel
theorem dX5_nextWord_50 : decode cX5_nextWord 50 = .ok (.putfield 25, 3) := by decide +kernel
theorem dX5_nextWord_53 : decode cX5_nextWord 53 = .ok (.goto (-49), 3) := by decide +kernel
theorem dX5_nextWord_56 : decode cX5_nextWord 56 = .ok (.return_, 1) := by decide +kernel
theorem dX5_isEmpty_0 : decode cX5_isEmpty 0 = .ok (.aload_n 0, 1) := by decide +kernel
theorem dX5_isEmpty_1 : decode cX5_isEmpty 1 = .ok (.getfield 25, 3) := by decide +kernel
theorem dX5_isEmpty_4 : decode cX5_isEmpty 4 = .ok (.aload_n 0, 1) := by decide +kernel
theorem dX5_isEmpty_5 : decode cX5_isEmpty 5 = .ok (.getfield 22, 3) := by decide +kernel
theorem dX5_isEmpty_8 : decode cX5_isEmpty 8 = .ok (.if_icmp .ne 7, 3) := by decide +kernel
theorem dX5_isEmpty_11 : decode cX5_isEmpty 11 = .ok (.iconst 1, 1) := by decide +kernel
theorem dX5_isEmpty_12 : decode cX5_isEmpty 12 = .ok (.goto 4, 3) := by decide +kernel
theorem dX5_isEmpty_15 : decode cX5_isEmpty 15 = .ok (.iconst 0, 1) := by decide +kernel
theorem dX5_isEmpty_16 : decode cX5_isEmpty 16 = .ok (.ireturn, 1) := by decide +kernel
theorem dX5_isAtEnd_0 : decode cX5_isAtEnd 0 = .ok (.aload_n 0, 1) := by decide +kernel
theorem dX5_isAtEnd_1 : decode cX5_isAtEnd 1 = .ok (.getfield 22, 3) := by decide +kernel
theorem dX5_isAtEnd_4 : decode cX5_isAtEnd 4 = .ok (.aload_n 0, 1) := by decide +kernel
theorem dX5_isAtEnd_5 : decode cX5_isAtEnd 5 = .ok (.getfield 19, 3) := by decide +kernel
theorem dX5_isAtEnd_8 : decode cX5_isAtEnd 8 = .ok (.if_icmp .lt 7, 3) := by decide +kernel
theorem dX5_isAtEnd_11 : decode cX5_isAtEnd 11 = .ok (.iconst 1, 1) := by decide +kernel
theorem dX5_isAtEnd_12 : decode cX5_isAtEnd 12 = .ok (.goto 4, 3) := by decide +kernel
theorem dX5_isAtEnd_15 : decode cX5_isAtEnd 15 = .ok (.iconst 0, 1) := by decide +kernel
theorem dX5_isAtEnd_16 : decode cX5_isAtEnd 16 = .ok (.ireturn, 1) := by decide +kernel
theorem dX5_isWord_0 : decode cX5_isWord 0 = .ok (.aload_n 0, 1) := by decide +kernel
theorem dX5_isWord_1 : decode cX5_isWord 1 = .ok (.getfield 25, 3) := by decide +kernel
theorem dX5_isWord_4 : decode cX5_isWord 4 = .ok (.aload_n 0, 1) := by decide +kernel
theorem dX5_isWord_5 : decode cX5_isWord 5 = .ok (.getfield 22, 3) := by decide +kernel
theorem dX5_isWord_8 : decode cX5_isWord 8 = .ok (.isub, 1) := by decide +kernel
theorem dX5_isWord_9 : decode cX5_isWord 9 = .ok (.aload_n 1, 1) := by decide +kernel
theorem dX5_isWord_10 : decode cX5_isWord 10 = .ok (.invokevirtual 34, 3) := by decide +kernel
theorem dX5_isWord_13 : decode cX5_isWord 13 = .ok (.if_icmp .eq 5, 3) := by decide +kernel
theorem dX5_isWord_16 : decode cX5_isWord 16 = .ok (.iconst 0, 1) := by decide +kernel
theorem dX5_isWord_17 : decode cX5_isWord 17 = .ok (.ireturn, 1) := by decide +kernel
theorem dX5_isWord_18 : decode cX5_isWord 18 = .ok (.iconst 0, 1) := by decide +kernel
theorem dX5_isWord_19 : decode cX5_isWord 19 = .ok (.istore_n 2, 1) := by decide +kernel
theorem dX5_isWord_20 : decode cX5_isWord 20 = .ok (.iload_n 2, 1) := by decide +kernel
theorem dX5_isWord_21 : decode cX5_isWord 21 = .ok (.aload_n 1, 1) := by decide +kernel
theorem dX5_isWord_22 : decode cX5_isWord 22 = .ok (.invokevirtual 34, 3) := by decide +kernel
theorem dX5_isWord_25 : decode cX5_isWord 25 = .ok (.if_icmp .ge 43, 3) := by decide +kernel
theorem dX5_isWord_28 : decode cX5_isWord 28 = .ok (.aload_n 0, 1) := by decide +kernel
theorem dX5_isWord_29 : decode cX5_isWord 29 = .ok (.getfield 22, 3) := by decide +kernel
theorem dX5_isWord_32 : decode cX5_isWord 32 = .ok (.iload_n 2, 1) := by decide +kernel
theorem dX5_isWord_33 : decode cX5_isWord 33 = .ok (.iadd, 1) := by decide +kernel
theorem dX5_isWord_34 : decode cX5_isWord 34 = .ok (.aload_n 0, 1) := by decide +kernel
theorem dX5_isWord_35 : decode cX5_isWord 35 = .ok (.getfield 19, 3) := by decide +kernel
theorem dX5_isWord_38 : decode cX5_isWord 38 = .ok (.if_icmp .ge 30, 3) := by decide +kernel
theorem dX5_isWord_41 : decode cX5_isWord 41 = .ok (.aload_n 0, 1) := by decide +kernel
theorem dX5_isWord_42 : decode cX5_isWord 42 = .ok (.getfield 9, 3) := by decide +kernel
theorem dX5_isWord_45 : decode cX5_isWord 45 = .ok (.aload_n 0, 1) := by decide +kernel
theorem dX5_isWord_46 : decode cX5_isWord 46 = .ok (.getfield 22, 3) := by decide +kernel
theorem dX5_isWord_49 : decode cX5_isWord 49 = .ok (.iload_n 2, 1) := by decide +kernel
theorem dX5_isWord_50 : decode cX5_isWord 50 = .ok (.iadd, 1) := by decide +kernel
theorem dX5_isWord_51 : decode cX5_isWord 51 = .ok (.iaload, 1) := by decide +kernel
theorem dX5_isWord_52 : decode cX5_isWord 52 = .ok (.aload_n 1, 1) := by decide +kernel
theorem dX5_isWord_53 : decode cX5_isWord 53 = .ok (.iload_n 2, 1) := by decide +kernel
theorem dX5_isWord_54 : decode cX5_isWord 54 = .ok (.invokevirtual 39, 3) := by decide +kernel
theorem dX5_isWord_57 : decode cX5_isWord 57 = .ok (.if_icmp .eq 5, 3) := by decide +kernel
theorem dX5_isWord_60 : decode cX5_isWord 60 = .ok (.iconst 0, 1) := by decide +kernel
theorem dX5_isWord_61 : decode cX5_isWord 61 = .ok (.ireturn, 1) := by decide +kernel
theorem dX5_isWord_62 : decode cX5_isWord 62 = .ok (.iinc 2 1, 3) := by decide +kernel
theorem dX5_isWord_65 : decode cX5_isWord 65 = .ok (.goto (-45), 3) := by decide +kernel
theorem dX5_isWord_68 : decode cX5_isWord 68 = .ok (.iconst 1, 1) := by decide +kernel
theorem dX5_isWord_69 : decode cX5_isWord 69 = .ok (.ireturn, 1) := by decide +kernel
theorem dX5_takeWord_0 : decode cX5_takeWord 0 = .ok (.aload_n 0, 1) := by decide +kernel
theorem dX5_takeWord_1 : decode cX5_takeWord 1 = .ok (.invokevirtual 43, 3) := by decide +kernel
theorem dX5_takeWord_4 : decode cX5_takeWord 4 = .ok (.aload_n 0, 1) := by decide +kernel
theorem dX5_takeWord_5 : decode cX5_takeWord 5 = .ok (.aload_n 1, 1) := by decide +kernel
theorem dX5_takeWord_6 : decode cX5_takeWord 6 = .ok (.invokevirtual 46, 3) := by decide +kernel
theorem dX5_takeWord_9 : decode cX5_takeWord 9 = .ok (.ifCond .ne 12, 3) := by decide +kernel
theorem dX5_takeWord_12 : decode cX5_takeWord 12 = .ok (.aload_n 0, 1) := by decide +kernel
theorem dX5_takeWord_13 : decode cX5_takeWord 13 = .ok (.bipush (-2), 2) := by decide +kernel
theorem dX5_takeWord_15 : decode cX5_takeWord 15 = .ok (.invokevirtual 50, 3) := by decide +kernel
theorem dX5_takeWord_18 : decode cX5_takeWord 18 = .ok (.ifCond .eq 7, 3) := by decide +kernel
theorem dX5_takeWord_21 : decode cX5_takeWord 21 = .ok (.iconst 1, 1) := by decide +kernel
theorem dX5_takeWord_22 : decode cX5_takeWord 22 = .ok (.goto 4, 3) := by decide +kernel
theorem dX5_takeWord_25 : decode cX5_takeWord 25 = .ok (.iconst 0, 1) := by decide +kernel
theorem dX5_takeWord_26 : decode cX5_takeWord 26 = .ok (.ireturn, 1) := by decide +kernel
theorem dX5_takeName_0 : decode cX5_takeName 0 = .ok (.aload_n 0, 1) := by decide +kernel
theorem dX5_takeName_1 : decode cX5_takeName 1 = .ok (.invokevirtual 43, 3) := by decide +kernel
theorem dX5_takeName_4 : decode cX5_takeName 4 = .ok (.aload_n 0, 1) := by decide +kernel
theorem dX5_takeName_5 : decode cX5_takeName 5 = .ok (.invokevirtual 54, 3) := by decide +kernel
theorem dX5_takeName_8 : decode cX5_takeName 8 = .ok (.ifCond .ne 12, 3) := by decide +kernel
theorem dX5_takeName_11 : decode cX5_takeName 11 = .ok (.aload_n 0, 1) := by decide +kernel
theorem dX5_takeName_12 : decode cX5_takeName 12 = .ok (.bipush (-2), 2) := by decide +kernel
theorem dX5_takeName_14 : decode cX5_takeName 14 = .ok (.invokevirtual 50, 3) := by decide +kernel
theorem dX5_takeName_17 : decode cX5_takeName 17 = .ok (.ifCond .eq 7, 3) := by decide +kernel
theorem dX5_takeName_20 : decode cX5_takeName 20 = .ok (.iconst 1, 1) := by decide +kernel
theorem dX5_takeName_21 : decode cX5_takeName 21 = .ok (.goto 4, 3) := by decide +kernel
theorem dX5_takeName_24 : decode cX5_takeName 24 = .ok (.iconst 0, 1) := by decide +kernel
theorem dX5_takeName_25 : decode cX5_takeName 25 = .ok (.ireturn, 1) := by decide +kernel
theorem dX5_isName_0 : decode cX5_isName 0 = .ok (.aload_n 0, 1) := by decide +kernel
theorem dX5_isName_1 : decode cX5_isName 1 = .ok (.invokevirtual 58, 3) := by decide +kernel
theorem dX5_isName_4 : decode cX5_isName 4 = .ok (.ifCond .ne 17, 3) := by decide +kernel
theorem dX5_isName_7 : decode cX5_isName 7 = .ok (.aload_n 0, 1) := by decide +kernel
theorem dX5_isName_8 : decode cX5_isName 8 = .ok (.getfield 25, 3) := by decide +kernel
theorem dX5_isName_11 : decode cX5_isName 11 = .ok (.aload_n 0, 1) := by decide +kernel
theorem dX5_isName_12 : decode cX5_isName 12 = .ok (.getfield 22, 3) := by decide +kernel
theorem dX5_isName_15 : decode cX5_isName 15 = .ok (.isub, 1) := by decide +kernel
theorem dX5_isName_16 : decode cX5_isName 16 = .ok (.bipush 8, 2) := by decide +kernel
theorem dX5_isName_18 : decode cX5_isName 18 = .ok (.if_icmp .le 5, 3) := by decide +kernel
theorem dX5_isName_21 : decode cX5_isName 21 = .ok (.iconst 0, 1) := by decide +kernel
theorem dX5_isName_22 : decode cX5_isName 22 = .ok (.ireturn, 1) := by decide +kernel
theorem dX5_isName_23 : decode cX5_isName 23 = .ok (.aload_n 0, 1) := by decide +kernel
theorem dX5_isName_24 : decode cX5_isName 24 = .ok (.lconst 0, 1) := by decide +kernel
theorem dX5_isName_25 : decode cX5_isName 25 = .ok (.putfield 61, 3) := by decide +kernel
theorem dX5_isName_28 : decode cX5_isName 28 = .ok (.aload_n 0, 1) := by decide +kernel
theorem dX5_isName_29 : decode cX5_isName 29 = .ok (.getfield 22, 3) := by decide +kernel
theorem dX5_isName_32 : decode cX5_isName 32 = .ok (.istore_n 1, 1) := by decide +kernel
theorem dX5_isName_33 : decode cX5_isName 33 = .ok (.iload_n 1, 1) := by decide +kernel
theorem dX5_isName_34 : decode cX5_isName 34 = .ok (.aload_n 0, 1) := by decide +kernel
theorem dX5_isName_35 : decode cX5_isName 35 = .ok (.getfield 25, 3) := by decide +kernel
theorem dX5_isName_38 : decode cX5_isName 38 = .ok (.if_icmp .ge 34, 3) := by decide +kernel
theorem dX5_isName_41 : decode cX5_isName 41 = .ok (.aload_n 0, 1) := by decide +kernel
theorem dX5_isName_42 : decode cX5_isName 42 = .ok (.aload_n 0, 1) := by decide +kernel
theorem dX5_isName_43 : decode cX5_isName 43 = .ok (.getfield 61, 3) := by decide +kernel
theorem dX5_isName_46 : decode cX5_isName 46 = .ok (.ldc2_w 65, 3) := by decide +kernel
theorem dX5_isName_49 : decode cX5_isName 49 = .ok (.lmul, 1) := by decide +kernel
theorem dX5_isName_50 : decode cX5_isName 50 = .ok (.aload_n 0, 1) := by decide +kernel
theorem dX5_isName_51 : decode cX5_isName 51 = .ok (.iload_n 1, 1) := by decide +kernel
theorem dX5_isName_52 : decode cX5_isName 52 = .ok (.invokevirtual 67, 3) := by decide +kernel
theorem dX5_isName_55 : decode cX5_isName 55 = .ok (.i2l, 1) := by decide +kernel
theorem dX5_isName_56 : decode cX5_isName 56 = .ok (.ladd, 1) := by decide +kernel
theorem dX5_isName_57 : decode cX5_isName 57 = .ok (.ldc2_w 71, 3) := by decide +kernel
theorem dX5_isName_60 : decode cX5_isName 60 = .ok (.lsub, 1) := by decide +kernel
theorem dX5_isName_61 : decode cX5_isName 61 = .ok (.lconst 1, 1) := by decide +kernel
theorem dX5_isName_62 : decode cX5_isName 62 = .ok (.ladd, 1) := by decide +kernel
theorem dX5_isName_63 : decode cX5_isName 63 = .ok (.putfield 61, 3) := by decide +kernel
theorem dX5_isName_66 : decode cX5_isName 66 = .ok (.iinc 1 1, 3) := by decide +kernel
theorem dX5_isName_69 : decode cX5_isName 69 = .ok (.goto (-36), 3) := by decide +kernel
theorem dX5_isName_72 : decode cX5_isName 72 = .ok (.iconst 1, 1) := by decide +kernel
theorem dX5_isName_73 : decode cX5_isName 73 = .ok (.ireturn, 1) := by decide +kernel
theorem dX5_nameHere_0 : decode cX5_nameHere 0 = .ok (.aload_n 0, 1) := by decide +kernel
theorem dX5_nameHere_1 : decode cX5_nameHere 1 = .ok (.invokevirtual 54, 3) := by decide +kernel
theorem dX5_nameHere_4 : decode cX5_nameHere 4 = .ok (.ifCond .ne 12, 3) := by decide +kernel
theorem dX5_nameHere_7 : decode cX5_nameHere 7 = .ok (.aload_n 0, 1) := by decide +kernel
theorem dX5_nameHere_8 : decode cX5_nameHere 8 = .ok (.bipush (-2), 2) := by decide +kernel
theorem dX5_nameHere_10 : decode cX5_nameHere 10 = .ok (.invokevirtual 50, 3) := by decide +kernel
theorem dX5_nameHere_13 : decode cX5_nameHere 13 = .ok (.ifCond .eq 7, 3) := by decide +kernel
theorem dX5_nameHere_16 : decode cX5_nameHere 16 = .ok (.iconst 1, 1) := by decide +kernel
theorem dX5_nameHere_17 : decode cX5_nameHere 17 = .ok (.goto 4, 3) := by decide +kernel
theorem dX5_nameHere_20 : decode cX5_nameHere 20 = .ok (.iconst 0, 1) := by decide +kernel
theorem dX5_nameHere_21 : decode cX5_nameHere 21 = .ok (.ireturn, 1) := by decide +kernel
theorem dX5_takeNumber_0 : decode cX5_takeNumber 0 = .ok (.aload_n 0, 1) := by decide +kernel
theorem dX5_takeNumber_1 : decode cX5_takeNumber 1 = .ok (.invokevirtual 31, 3) := by decide +kernel
theorem dX5_takeNumber_4 : decode cX5_takeNumber 4 = .ok (.aload_n 0, 1) := by decide +kernel
theorem dX5_takeNumber_5 : decode cX5_takeNumber 5 = .ok (.iconst 0, 1) := by decide +kernel
theorem dX5_takeNumber_6 : decode cX5_takeNumber 6 = .ok (.putfield 73, 3) := by decide +kernel
theorem dX5_takeNumber_9 : decode cX5_takeNumber 9 = .ok (.aload_n 0, 1) := by decide +kernel
theorem dX5_takeNumber_10 : decode cX5_takeNumber 10 = .ok (.getfield 25, 3) := by decide +kernel
theorem dX5_takeNumber_13 : decode cX5_takeNumber 13 = .ok (.aload_n 0, 1) := by decide +kernel
theorem dX5_takeNumber_14 : decode cX5_takeNumber 14 = .ok (.getfield 19, 3) := by decide +kernel
theorem dX5_takeNumber_17 : decode cX5_takeNumber 17 = .ok (.if_icmp .ge 73, 3) := by decide +kernel
theorem dX5_takeNumber_20 : decode cX5_takeNumber 20 = .ok (.aload_n 0, 1) := by decide +kernel
theorem dX5_takeNumber_21 : decode cX5_takeNumber 21 = .ok (.getfield 9, 3) := by decide +kernel
theorem dX5_takeNumber_24 : decode cX5_takeNumber 24 = .ok (.aload_n 0, 1) := by decide +kernel
theorem dX5_takeNumber_25 : decode cX5_takeNumber 25 = .ok (.getfield 25, 3) := by decide +kernel
theorem dX5_takeNumber_28 : decode cX5_takeNumber 28 = .ok (.iaload, 1) := by decide +kernel
theorem dX5_takeNumber_29 : decode cX5_takeNumber 29 = .ok (.bipush 48, 2) := by decide +kernel
theorem dX5_takeNumber_31 : decode cX5_takeNumber 31 = .ok (.if_icmp .lt 59, 3) := by decide +kernel
theorem dX5_takeNumber_34 : decode cX5_takeNumber 34 = .ok (.aload_n 0, 1) := by decide +kernel
theorem dX5_takeNumber_35 : decode cX5_takeNumber 35 = .ok (.getfield 9, 3) := by decide +kernel
theorem dX5_takeNumber_38 : decode cX5_takeNumber 38 = .ok (.aload_n 0, 1) := by decide +kernel
theorem dX5_takeNumber_39 : decode cX5_takeNumber 39 = .ok (.getfield 25, 3) := by decide +kernel
theorem dX5_takeNumber_42 : decode cX5_takeNumber 42 = .ok (.iaload, 1) := by decide +kernel
theorem dX5_takeNumber_43 : decode cX5_takeNumber 43 = .ok (.bipush 57, 2) := by decide +kernel
theorem dX5_takeNumber_45 : decode cX5_takeNumber 45 = .ok (.if_icmp .gt 45, 3) := by decide +kernel
theorem dX5_takeNumber_48 : decode cX5_takeNumber 48 = .ok (.aload_n 0, 1) := by decide +kernel
theorem dX5_takeNumber_49 : decode cX5_takeNumber 49 = .ok (.ldc 76, 2) := by decide +kernel
theorem dX5_takeNumber_51 : decode cX5_takeNumber 51 = .ok (.aload_n 0, 1) := by decide +kernel
theorem dX5_takeNumber_52 : decode cX5_takeNumber 52 = .ok (.getfield 73, 3) := by decide +kernel
theorem dX5_takeNumber_55 : decode cX5_takeNumber 55 = .ok (.bipush 10, 2) := by decide +kernel
theorem dX5_takeNumber_57 : decode cX5_takeNumber 57 = .ok (.imul, 1) := by decide +kernel
theorem dX5_takeNumber_58 : decode cX5_takeNumber 58 = .ok (.aload_n 0, 1) := by decide +kernel
theorem dX5_takeNumber_59 : decode cX5_takeNumber 59 = .ok (.getfield 9, 3) := by decide +kernel
theorem dX5_takeNumber_62 : decode cX5_takeNumber 62 = .ok (.aload_n 0, 1) := by decide +kernel
theorem dX5_takeNumber_63 : decode cX5_takeNumber 63 = .ok (.getfield 25, 3) := by decide +kernel
theorem dX5_takeNumber_66 : decode cX5_takeNumber 66 = .ok (.iaload, 1) := by decide +kernel
theorem dX5_takeNumber_67 : decode cX5_takeNumber 67 = .ok (.iadd, 1) := by decide +kernel
theorem dX5_takeNumber_68 : decode cX5_takeNumber 68 = .ok (.bipush 48, 2) := by decide +kernel
theorem dX5_takeNumber_70 : decode cX5_takeNumber 70 = .ok (.isub, 1) := by decide +kernel
theorem dX5_takeNumber_71 : decode cX5_takeNumber 71 = .ok (.invokestatic 77, 3) := by decide +kernel
theorem dX5_takeNumber_74 : decode cX5_takeNumber 74 = .ok (.putfield 73, 3) := by decide +kernel
theorem dX5_takeNumber_77 : decode cX5_takeNumber 77 = .ok (.aload_n 0, 1) := by decide +kernel
theorem dX5_takeNumber_78 : decode cX5_takeNumber 78 = .ok (.dup, 1) := by decide +kernel
theorem dX5_takeNumber_79 : decode cX5_takeNumber 79 = .ok (.getfield 25, 3) := by decide +kernel
theorem dX5_takeNumber_82 : decode cX5_takeNumber 82 = .ok (.iconst 1, 1) := by decide +kernel
theorem dX5_takeNumber_83 : decode cX5_takeNumber 83 = .ok (.iadd, 1) := by decide +kernel
theorem dX5_takeNumber_84 : decode cX5_takeNumber 84 = .ok (.putfield 25, 3) := by decide +kernel
theorem dX5_takeNumber_87 : decode cX5_takeNumber 87 = .ok (.goto (-78), 3) := by decide +kernel
theorem dX5_takeNumber_90 : decode cX5_takeNumber 90 = .ok (.aload_n 0, 1) := by decide +kernel
theorem dX5_takeNumber_91 : decode cX5_takeNumber 91 = .ok (.invokevirtual 58, 3) := by decide +kernel
theorem dX5_takeNumber_94 : decode cX5_takeNumber 94 = .ok (.ifCond .eq 10, 3) := by decide +kernel
theorem dX5_takeNumber_97 : decode cX5_takeNumber 97 = .ok (.aload_n 0, 1) := by decide +kernel
theorem dX5_takeNumber_98 : decode cX5_takeNumber 98 = .ok (.bipush (-2), 2) := by decide +kernel
theorem dX5_takeNumber_100 : decode cX5_takeNumber 100 = .ok (.invokevirtual 50, 3) := by decide +kernel
theorem dX5_takeNumber_103 : decode cX5_takeNumber 103 = .ok (.ireturn, 1) := by decide +kernel
theorem dX5_takeNumber_104 : decode cX5_takeNumber 104 = .ok (.aload_n 0, 1) := by decide +kernel
theorem dX5_takeNumber_105 : decode cX5_takeNumber 105 = .ok (.getfield 73, 3) := by decide +kernel
theorem dX5_takeNumber_108 : decode cX5_takeNumber 108 = .ok (.iload_n 1, 1) := by decide +kernel
theorem dX5_takeNumber_109 : decode cX5_takeNumber 109 = .ok (.if_icmp .lt 11, 3) := by decide +kernel
theorem dX5_takeNumber_112 : decode cX5_takeNumber 112 = .ok (.aload_n 0, 1) := by decide +kernel
theorem dX5_takeNumber_113 : decode cX5_takeNumber 113 = .ok (.getfield 73, 3) := by decide +kernel
theorem dX5_takeNumber_116 : decode cX5_takeNumber 116 = .ok (.iload_n 2, 1) := by decide +kernel
theorem dX5_takeNumber_117 : decode cX5_takeNumber 117 = .ok (.if_icmp .le 12, 3) := by decide +kernel
theorem dX5_takeNumber_120 : decode cX5_takeNumber 120 = .ok (.aload_n 0, 1) := by decide +kernel
theorem dX5_takeNumber_121 : decode cX5_takeNumber 121 = .ok (.bipush (-3), 2) := by decide +kernel
theorem dX5_takeNumber_123 : decode cX5_takeNumber 123 = .ok (.invokevirtual 50, 3) := by decide +kernel
theorem dX5_takeNumber_126 : decode cX5_takeNumber 126 = .ok (.ifCond .eq 7, 3) := by decide +kernel
theorem dX5_takeNumber_129 : decode cX5_takeNumber 129 = .ok (.iconst 1, 1) := by decide +kernel
theorem dX5_takeNumber_130 : decode cX5_takeNumber 130 = .ok (.goto 4, 3) := by decide +kernel
theorem dX5_takeNumber_133 : decode cX5_takeNumber 133 = .ok (.iconst 0, 1) := by decide +kernel
theorem dX5_takeNumber_134 : decode cX5_takeNumber 134 = .ok (.ireturn, 1) := by decide +kernel
theorem dX5_takeSemicolon_0 : decode cX5_takeSemicolon 0 = .ok (.aload_n 0, 1) := by decide +kernel
theorem dX5_takeSemicolon_1 : decode cX5_takeSemicolon 1 = .ok (.invokevirtual 31, 3) := by decide +kernel
theorem dX5_takeSemicolon_4 : decode cX5_takeSemicolon 4 = .ok (.aload_n 0, 1) := by decide +kernel
theorem dX5_takeSemicolon_5 : decode cX5_takeSemicolon 5 = .ok (.aload_n 0, 1) := by decide +kernel
theorem dX5_takeSemicolon_6 : decode cX5_takeSemicolon 6 = .ok (.getfield 22, 3) := by decide +kernel
theorem dX5_takeSemicolon_9 : decode cX5_takeSemicolon 9 = .ok (.invokevirtual 67, 3) := by decide +kernel
theorem dX5_takeSemicolon_12 : decode cX5_takeSemicolon 12 = .ok (.bipush 59, 2) := by decide +kernel
theorem dX5_takeSemicolon_14 : decode cX5_takeSemicolon 14 = .ok (.if_icmp .eq 10, 3) := by decide +kernel
theorem dX5_takeSemicolon_17 : decode cX5_takeSemicolon 17 = .ok (.aload_n 0, 1) := by decide +kernel
theorem dX5_takeSemicolon_18 : decode cX5_takeSemicolon 18 = .ok (.bipush (-2), 2) := by decide +kernel
theorem dX5_takeSemicolon_20 : decode cX5_takeSemicolon 20 = .ok (.invokevirtual 50, 3) := by decide +kernel
theorem dX5_takeSemicolon_23 : decode cX5_takeSemicolon 23 = .ok (.ireturn, 1) := by decide +kernel
theorem dX5_takeSemicolon_24 : decode cX5_takeSemicolon 24 = .ok (.aload_n 0, 1) := by decide +kernel
theorem dX5_takeSemicolon_25 : decode cX5_takeSemicolon 25 = .ok (.aload_n 0, 1) := by decide +kernel
theorem dX5_takeSemicolon_26 : decode cX5_takeSemicolon 26 = .ok (.getfield 22, 3) := by decide +kernel
theorem dX5_takeSemicolon_29 : decode cX5_takeSemicolon 29 = .ok (.iconst 1, 1) := by decide +kernel
theorem dX5_takeSemicolon_30 : decode cX5_takeSemicolon 30 = .ok (.iadd, 1) := by decide +kernel
theorem dX5_takeSemicolon_31 : decode cX5_takeSemicolon 31 = .ok (.putfield 25, 3) := by decide +kernel
theorem dX5_takeSemicolon_34 : decode cX5_takeSemicolon 34 = .ok (.iconst 1, 1) := by decide +kernel
theorem dX5_takeSemicolon_35 : decode cX5_takeSemicolon 35 = .ok (.ireturn, 1) := by decide +kernel
theorem dX6_init_0 : decode cX6_init 0 = .ok (.aload_n 0, 1) := by decide +kernel
theorem dX6_init_1 : decode cX6_init 1 = .ok (.invokespecial 3, 3) := by decide +kernel
theorem dX6_init_4 : decode cX6_init 4 = .ok (.aload_n 0, 1) := by decide +kernel
theorem dX6_init_5 : decode cX6_init 5 = .ok (.bipush 12, 2) := by decide +kernel
theorem dX6_init_7 : decode cX6_init 7 = .ok (.newarray .boolean, 2) := by decide +kernel
theorem dX6_init_9 : decode cX6_init 9 = .ok (.putfield 9, 3) := by decide +kernel
theorem dX6_init_12 : decode cX6_init 12 = .ok (.aload_n 0, 1) := by decide +kernel
theorem dX6_init_13 : decode cX6_init 13 = .ok (.bipush 12, 2) := by decide +kernel
theorem dX6_init_15 : decode cX6_init 15 = .ok (.newarray .int, 2) := by decide +kernel
theorem dX6_init_17 : decode cX6_init 17 = .ok (.putfield 15, 3) := by decide +kernel
theorem dX6_init_20 : decode cX6_init 20 = .ok (.aload_n 0, 1) := by decide +kernel
theorem dX6_init_21 : decode cX6_init 21 = .ok (.bipush 12, 2) := by decide +kernel
theorem dX6_init_23 : decode cX6_init 23 = .ok (.newarray .int, 2) := by decide +kernel
theorem dX6_init_25 : decode cX6_init 25 = .ok (.putfield 19, 3) := by decide +kernel
theorem dX6_init_28 : decode cX6_init 28 = .ok (.aload_n 0, 1) := by decide +kernel
theorem dX6_init_29 : decode cX6_init 29 = .ok (.bipush 12, 2) := by decide +kernel
theorem dX6_init_31 : decode cX6_init 31 = .ok (.newarray .int, 2) := by decide +kernel
theorem dX6_init_33 : decode cX6_init 33 = .ok (.putfield 22, 3) := by decide +kernel
theorem dX6_init_36 : decode cX6_init 36 = .ok (.aload_n 0, 1) := by decide +kernel
theorem dX6_init_37 : decode cX6_init 37 = .ok (.bipush 12, 2) := by decide +kernel
theorem dX6_init_39 : decode cX6_init 39 = .ok (.newarray .int, 2) := by decide +kernel
theorem dX6_init_41 : decode cX6_init 41 = .ok (.putfield 25, 3) := by decide +kernel
theorem dX6_init_44 : decode cX6_init 44 = .ok (.aload_n 0, 1) := by decide +kernel
theorem dX6_init_45 : decode cX6_init 45 = .ok (.sipush 144, 3) := by decide +kernel
theorem dX6_init_48 : decode cX6_init 48 = .ok (.newarray .int, 2) := by decide +kernel
theorem dX6_init_50 : decode cX6_init 50 = .ok (.putfield 28, 3) := by decide +kernel
theorem dX6_init_53 : decode cX6_init 53 = .ok (.return_, 1) := by decide +kernel
theorem dX6_carryOut_0 : decode cX6_carryOut 0 = .ok (.aload_n 0, 1) := by decide +kernel
theorem dX6_carryOut_1 : decode cX6_carryOut 1 = .ok (.getfield 25, 3) := by decide +kernel
theorem dX6_carryOut_4 : decode cX6_carryOut 4 = .ok (.iconst 0, 1) := by decide +kernel
theorem dX6_carryOut_5 : decode cX6_carryOut 5 = .ok (.invokestatic 31, 3) := by decide +kernel
theorem dX6_carryOut_8 : decode cX6_carryOut 8 = .ok (.aload_n 0, 1) := by decide +kernel
theorem dX6_carryOut_9 : decode cX6_carryOut 9 = .ok (.getfield 28, 3) := by decide +kernel
theorem dX6_carryOut_12 : decode cX6_carryOut 12 = .ok (.iconst (-1), 1) := by decide +kernel
theorem dX6_carryOut_13 : decode cX6_carryOut 13 = .ok (.invokestatic 31, 3) := by decide +kernel
theorem dX6_carryOut_16 : decode cX6_carryOut 16 = .ok (.aload_n 0, 1) := by decide +kernel
theorem dX6_carryOut_17 : decode cX6_carryOut 17 = .ok (.iconst 0, 1) := by decide +kernel
theorem dX6_carryOut_18 : decode cX6_carryOut 18 = .ok (.putfield 37, 3) := by decide +kernel
theorem dX6_carryOut_21 : decode cX6_carryOut 21 = .ok (.aload_n 1, 1) := by decide +kernel
theorem dX6_carryOut_22 : decode cX6_carryOut 22 = .ok (.iconst 0, 1) := by decide +kernel
theorem dX6_carryOut_23 : decode cX6_carryOut 23 = .ok (.putfield 41, 3) := by decide +kernel
theorem dX6_carryOut_26 : decode cX6_carryOut 26 = .ok (.iconst 0, 1) := by decide +kernel
theorem dX6_carryOut_27 : decode cX6_carryOut 27 = .ok (.istore_n 3, 1) := by decide +kernel
theorem dX6_carryOut_28 : decode cX6_carryOut 28 = .ok (.iload_n 3, 1) := by decide +kernel
theorem dX6_carryOut_29 : decode cX6_carryOut 29 = .ok (.iload_n 2, 1) := by decide +kernel
theorem dX6_carryOut_30 : decode cX6_carryOut 30 = .ok (.if_icmp .ge 31, 3) := by decide +kernel
theorem dX6_carryOut_33 : decode cX6_carryOut 33 = .ok (.aload_n 0, 1) := by decide +kernel
theorem dX6_carryOut_34 : decode cX6_carryOut 34 = .ok (.aload_n 1, 1) := by decide +kernel
theorem dX6_carryOut_35 : decode cX6_carryOut 35 = .ok (.iload_n 3, 1) := by decide +kernel
theorem dX6_carryOut_36 : decode cX6_carryOut 36 = .ok (.invokevirtual 44, 3) := by decide +kernel
theorem dX6_carryOut_39 : decode cX6_carryOut 39 = .ok (.aload_n 0, 1) := by decide +kernel
theorem dX6_carryOut_40 : decode cX6_carryOut 40 = .ok (.aload_n 1, 1) := by decide +kernel
theorem dX6_carryOut_41 : decode cX6_carryOut 41 = .ok (.iload_n 3, 1) := by decide +kernel
theorem dX6_carryOut_42 : decode cX6_carryOut 42 = .ok (.invokevirtual 48, 3) := by decide +kernel
theorem dX6_carryOut_45 : decode cX6_carryOut 45 = .ok (.aload_n 0, 1) := by decide +kernel
theorem dX6_carryOut_46 : decode cX6_carryOut 46 = .ok (.aload_n 1, 1) := by decide +kernel
theorem dX6_carryOut_47 : decode cX6_carryOut 47 = .ok (.invokevirtual 51, 3) := by decide +kernel
theorem dX6_carryOut_50 : decode cX6_carryOut 50 = .ok (.aload_n 0, 1) := by decide +kernel
theorem dX6_carryOut_51 : decode cX6_carryOut 51 = .ok (.aload_n 1, 1) := by decide +kernel
theorem dX6_carryOut_52 : decode cX6_carryOut 52 = .ok (.invokevirtual 55, 3) := by decide +kernel
theorem dX6_carryOut_55 : decode cX6_carryOut 55 = .ok (.iinc 3 1, 3) := by decide +kernel
theorem dX6_carryOut_58 : decode cX6_carryOut 58 = .ok (.goto (-30), 3) := by decide +kernel
theorem dX6_carryOut_61 : decode cX6_carryOut 61 = .ok (.return_, 1) := by decide +kernel
theorem dX6_steerAll_0 : decode cX6_steerAll 0 = .ok (.iconst 0, 1) := by decide +kernel
theorem dX6_steerAll_1 : decode cX6_steerAll 1 = .ok (.istore_n 3, 1) := by decide +kernel
theorem dX6_steerAll_2 : decode cX6_steerAll 2 = .ok (.iload_n 3, 1) := by decide +kernel
theorem dX6_steerAll_3 : decode cX6_steerAll 3 = .ok (.aload_n 1, 1) := by decide +kernel
theorem dX6_steerAll_4 : decode cX6_steerAll 4 = .ok (.getfield 58, 3) := by decide +kernel
theorem dX6_steerAll_7 : decode cX6_steerAll 7 = .ok (.if_icmp .ge 87, 3) := by decide +kernel
theorem dX6_steerAll_10 : decode cX6_steerAll 10 = .ok (.aload_n 0, 1) := by decide +kernel
theorem dX6_steerAll_11 : decode cX6_steerAll 11 = .ok (.getfield 9, 3) := by decide +kernel
theorem dX6_steerAll_14 : decode cX6_steerAll 14 = .ok (.iload_n 3, 1) := by decide +kernel
theorem dX6_steerAll_15 : decode cX6_steerAll 15 = .ok (.iconst 0, 1) := by decide +kernel
theorem dX6_steerAll_16 : decode cX6_steerAll 16 = .ok (.bastore, 1) := by decide +kernel
theorem dX6_steerAll_17 : decode cX6_steerAll 17 = .ok (.aload_n 0, 1) := by decide +kernel
theorem dX6_steerAll_18 : decode cX6_steerAll 18 = .ok (.getfield 22, 3) := by decide +kernel
theorem dX6_steerAll_21 : decode cX6_steerAll 21 = .ok (.iload_n 3, 1) := by decide +kernel
theorem dX6_steerAll_22 : decode cX6_steerAll 22 = .ok (.iconst 0, 1) := by decide +kernel
theorem dX6_steerAll_23 : decode cX6_steerAll 23 = .ok (.iastore, 1) := by decide +kernel
theorem dX6_steerAll_24 : decode cX6_steerAll 24 = .ok (.aload_n 0, 1) := by decide +kernel
theorem dX6_steerAll_25 : decode cX6_steerAll 25 = .ok (.getfield 15, 3) := by decide +kernel
theorem dX6_steerAll_28 : decode cX6_steerAll 28 = .ok (.iload_n 3, 1) := by decide +kernel
theorem dX6_steerAll_29 : decode cX6_steerAll 29 = .ok (.iconst (-1), 1) := by decide +kernel
theorem dX6_steerAll_30 : decode cX6_steerAll 30 = .ok (.iastore, 1) := by decide +kernel
theorem dX6_steerAll_31 : decode cX6_steerAll 31 = .ok (.aload_n 1, 1) := by decide +kernel
theorem dX6_steerAll_32 : decode cX6_steerAll 32 = .ok (.iload_n 3, 1) := by decide +kernel
theorem dX6_steerAll_33 : decode cX6_steerAll 33 = .ok (.invokevirtual 61, 3) := by decide +kernel
theorem dX6_steerAll_36 : decode cX6_steerAll 36 = .ok (.ifCond .eq 52, 3) := by decide +kernel
theorem dX6_steerAll_39 : decode cX6_steerAll 39 = .ok (.aload_n 0, 1) := by decide +kernel
theorem dX6_steerAll_40 : decode cX6_steerAll 40 = .ok (.getfield 15, 3) := by decide +kernel
theorem dX6_steerAll_43 : decode cX6_steerAll 43 = .ok (.iload_n 3, 1) := by decide +kernel
theorem dX6_steerAll_44 : decode cX6_steerAll 44 = .ok (.aload_n 1, 1) := by decide +kernel
theorem dX6_steerAll_45 : decode cX6_steerAll 45 = .ok (.iload_n 3, 1) := by decide +kernel
theorem dX6_steerAll_46 : decode cX6_steerAll 46 = .ok (.iconst 1, 1) := by decide +kernel
theorem dX6_steerAll_47 : decode cX6_steerAll 47 = .ok (.invokevirtual 65, 3) := by decide +kernel
theorem dX6_steerAll_50 : decode cX6_steerAll 50 = .ok (.aload_n 1, 1) := by decide +kernel
theorem dX6_steerAll_51 : decode cX6_steerAll 51 = .ok (.iload_n 3, 1) := by decide +kernel
theorem dX6_steerAll_52 : decode cX6_steerAll 52 = .ok (.iconst 2, 1) := by decide +kernel
theorem dX6_steerAll_53 : decode cX6_steerAll 53 = .ok (.invokevirtual 65, 3) := by decide +kernel
theorem dX6_steerAll_56 : decode cX6_steerAll 56 = .ok (.invokestatic 69, 3) := by decide +kernel
theorem dX6_steerAll_59 : decode cX6_steerAll 59 = .ok (.iastore, 1) := by decide +kernel
theorem dX6_steerAll_60 : decode cX6_steerAll 60 = .ok (.aload_n 1, 1) := by decide +kernel
theorem dX6_steerAll_61 : decode cX6_steerAll 61 = .ok (.getfield 72, 3) := by decide +kernel
theorem dX6_steerAll_64 : decode cX6_steerAll 64 = .ok (.iload_n 3, 1) := by decide +kernel
theorem dX6_steerAll_65 : decode cX6_steerAll 65 = .ok (.iaload, 1) := by decide +kernel
theorem dX6_steerAll_66 : decode cX6_steerAll 66 = .ok (.iload_n 2, 1) := by decide +kernel
theorem dX6_steerAll_67 : decode cX6_steerAll 67 = .ok (.invokestatic 75, 3) := by decide +kernel
theorem dX6_steerAll_70 : decode cX6_steerAll 70 = .ok (.istore 4, 2) := by decide +kernel
theorem dX6_steerAll_72 : decode cX6_steerAll 72 = .ok (.aload_n 0, 1) := by decide +kernel
theorem dX6_steerAll_73 : decode cX6_steerAll 73 = .ok (.aload_n 1, 1) := by decide +kernel
theorem dX6_steerAll_74 : decode cX6_steerAll 74 = .ok (.iload_n 3, 1) := by decide +kernel
theorem dX6_steerAll_75 : decode cX6_steerAll 75 = .ok (.iload 4, 2) := by decide +kernel
theorem dX6_steerAll_77 : decode cX6_steerAll 77 = .ok (.invokevirtual 80, 3) := by decide +kernel
theorem dX6_steerAll_80 : decode cX6_steerAll 80 = .ok (.aload_n 0, 1) := by decide +kernel
theorem dX6_steerAll_81 : decode cX6_steerAll 81 = .ok (.aload_n 1, 1) := by decide +kernel
theorem dX6_steerAll_82 : decode cX6_steerAll 82 = .ok (.iload_n 3, 1) := by decide +kernel
theorem dX6_steerAll_83 : decode cX6_steerAll 83 = .ok (.iload 4, 2) := by decide +kernel
theorem dX6_steerAll_85 : decode cX6_steerAll 85 = .ok (.invokevirtual 84, 3) := by decide +kernel
theorem dX6_steerAll_88 : decode cX6_steerAll 88 = .ok (.iinc 3 1, 3) := by decide +kernel
theorem dX6_steerAll_91 : decode cX6_steerAll 91 = .ok (.goto (-89), 3) := by decide +kernel
theorem dX6_steerAll_94 : decode cX6_steerAll 94 = .ok (.return_, 1) := by decide +kernel
theorem dX6_turnShip_0 : decode cX6_turnShip 0 = .ok (.iconst 4, 1) := by decide +kernel
theorem dX6_turnShip_1 : decode cX6_turnShip 1 = .ok (.aload_n 1, 1) := by decide +kernel
theorem dX6_turnShip_2 : decode cX6_turnShip 2 = .ok (.iload_n 2, 1) := by decide +kernel
theorem dX6_turnShip_3 : decode cX6_turnShip 3 = .ok (.bipush 9, 2) := by decide +kernel
theorem dX6_turnShip_5 : decode cX6_turnShip 5 = .ok (.invokevirtual 65, 3) := by decide +kernel
theorem dX6_turnShip_8 : decode cX6_turnShip 8 = .ok (.iconst 1, 1) := by decide +kernel
theorem dX6_turnShip_9 : decode cX6_turnShip 9 = .ok (.iadd, 1) := by decide +kernel
theorem dX6_turnShip_10 : decode cX6_turnShip 10 = .ok (.invokestatic 87, 3) := by decide +kernel
theorem dX6_turnShip_13 : decode cX6_turnShip 13 = .ok (.istore 4, 2) := by decide +kernel
theorem dX6_turnShip_15 : decode cX6_turnShip 15 = .ok (.iload_n 3, 1) := by decide +kernel
theorem dX6_turnShip_16 : decode cX6_turnShip 16 = .ok (.iconst 2, 1) := by decide +kernel
theorem dX6_turnShip_17 : decode cX6_turnShip 17 = .ok (.if_icmp .eq 8, 3) := by decide +kernel
theorem dX6_turnShip_20 : decode cX6_turnShip 20 = .ok (.iload_n 3, 1) := by decide +kernel
theorem dX6_turnShip_21 : decode cX6_turnShip 21 = .ok (.iconst 3, 1) := by decide +kernel
theorem dX6_turnShip_22 : decode cX6_turnShip 22 = .ok (.if_icmp .ne 19, 3) := by decide +kernel
theorem dX6_turnShip_25 : decode cX6_turnShip 25 = .ok (.iload 4, 2) := by decide +kernel
theorem dX6_turnShip_27 : decode cX6_turnShip 27 = .ok (.aload_n 1, 1) := by decide +kernel
theorem dX6_turnShip_28 : decode cX6_turnShip 28 = .ok (.iload_n 2, 1) := by decide +kernel
theorem dX6_turnShip_29 : decode cX6_turnShip 29 = .ok (.bipush 7, 2) := by decide +kernel
theorem dX6_turnShip_31 : decode cX6_turnShip 31 = .ok (.invokevirtual 65, 3) := by decide +kernel
theorem dX6_turnShip_34 : decode cX6_turnShip 34 = .ok (.if_icmp .le 7, 3) := by decide +kernel
theorem dX6_turnShip_37 : decode cX6_turnShip 37 = .ok (.iconst 1, 1) := by decide +kernel
theorem dX6_turnShip_38 : decode cX6_turnShip 38 = .ok (.goto 4, 3) := by decide +kernel
theorem dX6_turnShip_41 : decode cX6_turnShip 41 = .ok (.iconst 0, 1) := by decide +kernel
theorem dX6_turnShip_42 : decode cX6_turnShip 42 = .ok (.istore 5, 2) := by decide +kernel
theorem dX6_turnShip_44 : decode cX6_turnShip 44 = .ok (.iload 5, 2) := by decide +kernel
theorem dX6_turnShip_46 : decode cX6_turnShip 46 = .ok (.ifCond .eq 33, 3) := by decide +kernel
theorem dX6_turnShip_49 : decode cX6_turnShip 49 = .ok (.iload_n 3, 1) := by decide +kernel
theorem dX6_turnShip_50 : decode cX6_turnShip 50 = .ok (.iconst 2, 1) := by decide +kernel
theorem dX6_turnShip_51 : decode cX6_turnShip 51 = .ok (.if_icmp .ne 7, 3) := by decide +kernel
theorem dX6_turnShip_54 : decode cX6_turnShip 54 = .ok (.iconst (-1), 1) := by decide +kernel
theorem dX6_turnShip_55 : decode cX6_turnShip 55 = .ok (.goto 4, 3) := by decide +kernel
theorem dX6_turnShip_58 : decode cX6_turnShip 58 = .ok (.iconst 1, 1) := by decide +kernel
theorem dX6_turnShip_59 : decode cX6_turnShip 59 = .ok (.istore 6, 2) := by decide +kernel
theorem dX6_turnShip_61 : decode cX6_turnShip 61 = .ok (.aload_n 1, 1) := by decide +kernel
theorem dX6_turnShip_62 : decode cX6_turnShip 62 = .ok (.iload_n 2, 1) := by decide +kernel
theorem dX6_turnShip_63 : decode cX6_turnShip 63 = .ok (.iconst 3, 1) := by decide +kernel
theorem dX6_turnShip_64 : decode cX6_turnShip 64 = .ok (.aload_n 1, 1) := by decide +kernel
theorem dX6_turnShip_65 : decode cX6_turnShip 65 = .ok (.iload_n 2, 1) := by decide +kernel
theorem dX6_turnShip_66 : decode cX6_turnShip 66 = .ok (.iconst 3, 1) := by decide +kernel
theorem dX6_turnShip_67 : decode cX6_turnShip 67 = .ok (.invokevirtual 65, 3) := by decide +kernel
theorem dX6_turnShip_70 : decode cX6_turnShip 70 = .ok (.iload 6, 2) := by decide +kernel
theorem dX6_turnShip_72 : decode cX6_turnShip 72 = .ok (.iadd, 1) := by decide +kernel
theorem dX6_turnShip_73 : decode cX6_turnShip 73 = .ok (.bipush 7, 2) := by decide +kernel
theorem dX6_turnShip_75 : decode cX6_turnShip 75 = .ok (.iand, 1) := by decide +kernel
theorem dX6_turnShip_76 : decode cX6_turnShip 76 = .ok (.invokevirtual 92, 3) := by decide +kernel
theorem dX6_turnShip_79 : decode cX6_turnShip 79 = .ok (.aload_n 1, 1) := by decide +kernel
theorem dX6_turnShip_80 : decode cX6_turnShip 80 = .ok (.iload_n 2, 1) := by decide +kernel
theorem dX6_turnShip_81 : decode cX6_turnShip 81 = .ok (.bipush 9, 2) := by decide +kernel
theorem dX6_turnShip_83 : decode cX6_turnShip 83 = .ok (.iload 5, 2) := by decide +kernel
theorem dX6_turnShip_85 : decode cX6_turnShip 85 = .ok (.ifCond .eq 7, 3) := by decide +kernel
theorem dX6_turnShip_88 : decode cX6_turnShip 88 = .ok (.iconst 0, 1) := by decide +kernel
theorem dX6_turnShip_89 : decode cX6_turnShip 89 = .ok (.goto 5, 3) := by decide +kernel
theorem dX6_turnShip_92 : decode cX6_turnShip 92 = .ok (.iload 4, 2) := by decide +kernel
theorem dX6_turnShip_94 : decode cX6_turnShip 94 = .ok (.invokevirtual 92, 3) := by decide +kernel
theorem dX6_turnShip_97 : decode cX6_turnShip 97 = .ok (.return_, 1) := by decide +kernel
theorem dX6_gatherWay_0 : decode cX6_gatherWay 0 = .ok (.iload_n 3, 1) := by decide +kernel
theorem dX6_gatherWay_1 : decode cX6_gatherWay 1 = .ok (.iconst 4, 1) := by decide +kernel
theorem dX6_gatherWay_2 : decode cX6_gatherWay 2 = .ok (.if_icmp .ne 4, 3) := by decide +kernel
theorem dX6_gatherWay_5 : decode cX6_gatherWay 5 = .ok (.return_, 1) := by decide +kernel
theorem dX6_gatherWay_6 : decode cX6_gatherWay 6 = .ok (.aload_n 1, 1) := by decide +kernel
theorem dX6_gatherWay_7 : decode cX6_gatherWay 7 = .ok (.iload_n 2, 1) := by decide +kernel
theorem dX6_gatherWay_8 : decode cX6_gatherWay 8 = .ok (.iconst 3, 1) := by decide +kernel
theorem dX6_gatherWay_9 : decode cX6_gatherWay 9 = .ok (.invokevirtual 65, 3) := by decide +kernel
theorem dX6_gatherWay_12 : decode cX6_gatherWay 12 = .ok (.bipush 7, 2) := by decide +kernel
theorem dX6_gatherWay_14 : decode cX6_gatherWay 14 = .ok (.iand, 1) := by decide +kernel
theorem dX6_gatherWay_15 : decode cX6_gatherWay 15 = .ok (.istore 4, 2) := by decide +kernel
theorem dX6_gatherWay_17 : decode cX6_gatherWay 17 = .ok (.sipush 180, 3) := by decide +kernel
theorem dX6_gatherWay_20 : decode cX6_gatherWay 20 = .ok (.aload_n 1, 1) := by decide +kernel
theorem dX6_gatherWay_21 : decode cX6_gatherWay 21 = .ok (.iload_n 2, 1) := by decide +kernel
theorem dX6_gatherWay_22 : decode cX6_gatherWay 22 = .ok (.bipush 8, 2) := by decide +kernel
theorem dX6_gatherWay_24 : decode cX6_gatherWay 24 = .ok (.invokevirtual 65, 3) := by decide +kernel
theorem dX6_gatherWay_27 : decode cX6_gatherWay 27 = .ok (.aload_n 1, 1) := by decide +kernel
theorem dX6_gatherWay_28 : decode cX6_gatherWay 28 = .ok (.iload_n 2, 1) := by decide +kernel
theorem dX6_gatherWay_29 : decode cX6_gatherWay 29 = .ok (.iload 4, 2) := by decide +kernel
theorem dX6_gatherWay_31 : decode cX6_gatherWay 31 = .ok (.invokevirtual 96, 3) := by decide +kernel
theorem dX6_gatherWay_34 : decode cX6_gatherWay 34 = .ok (.iadd, 1) := by decide +kernel
theorem dX6_gatherWay_35 : decode cX6_gatherWay 35 = .ok (.invokestatic 87, 3) := by decide +kernel
theorem dX6_gatherWay_38 : decode cX6_gatherWay 38 = .ok (.istore 5, 2) := by decide +kernel
theorem dX6_gatherWay_40 : decode cX6_gatherWay 40 = .ok (.iload 5, 2) := by decide +kernel
theorem dX6_gatherWay_42 : decode cX6_gatherWay 42 = .ok (.bipush 90, 2) := by decide +kernel
theorem dX6_gatherWay_44 : decode cX6_gatherWay 44 = .ok (.if_icmp .lt 77, 3) := by decide +kernel
theorem dX6_gatherWay_47 : decode cX6_gatherWay 47 = .ok (.aload_n 1, 1) := by decide +kernel
theorem dX6_gatherWay_48 : decode cX6_gatherWay 48 = .ok (.iload_n 2, 1) := by decide +kernel
theorem dX6_gatherWay_49 : decode cX6_gatherWay 49 = .ok (.iconst 1, 1) := by decide +kernel
theorem dX6_gatherWay_50 : decode cX6_gatherWay 50 = .ok (.invokevirtual 65, 3) := by decide +kernel
theorem dX6_gatherWay_53 : decode cX6_gatherWay 53 = .ok (.getstatic 99, 3) := by decide +kernel
theorem dX6_gatherWay_56 : decode cX6_gatherWay 56 = .ok (.iload 4, 2) := by decide +kernel
theorem dX6_gatherWay_58 : decode cX6_gatherWay 58 = .ok (.iaload, 1) := by decide +kernel
theorem dX6_gatherWay_59 : decode cX6_gatherWay 59 = .ok (.iadd, 1) := by decide +kernel
theorem dX6_gatherWay_60 : decode cX6_gatherWay 60 = .ok (.istore 6, 2) := by decide +kernel
theorem dX6_gatherWay_62 : decode cX6_gatherWay 62 = .ok (.aload_n 1, 1) := by decide +kernel
theorem dX6_gatherWay_63 : decode cX6_gatherWay 63 = .ok (.iload_n 2, 1) := by decide +kernel
theorem dX6_gatherWay_64 : decode cX6_gatherWay 64 = .ok (.iconst 2, 1) := by decide +kernel
theorem dX6_gatherWay_65 : decode cX6_gatherWay 65 = .ok (.invokevirtual 65, 3) := by decide +kernel
theorem dX6_gatherWay_68 : decode cX6_gatherWay 68 = .ok (.getstatic 102, 3) := by decide +kernel
theorem dX6_gatherWay_71 : decode cX6_gatherWay 71 = .ok (.iload 4, 2) := by decide +kernel
theorem dX6_gatherWay_73 : decode cX6_gatherWay 73 = .ok (.iaload, 1) := by decide +kernel
theorem dX6_gatherWay_74 : decode cX6_gatherWay 74 = .ok (.iadd, 1) := by decide +kernel
theorem dX6_gatherWay_75 : decode cX6_gatherWay 75 = .ok (.istore 7, 2) := by decide +kernel
theorem dX6_gatherWay_77 : decode cX6_gatherWay 77 = .ok (.aload_n 0, 1) := by decide +kernel
theorem dX6_gatherWay_78 : decode cX6_gatherWay 78 = .ok (.getfield 9, 3) := by decide +kernel
theorem dX6_gatherWay_81 : decode cX6_gatherWay 81 = .ok (.iload_n 2, 1) := by decide +kernel
theorem dX6_gatherWay_82 : decode cX6_gatherWay 82 = .ok (.aload_n 1, 1) := by decide +kernel
theorem dX6_gatherWay_83 : decode cX6_gatherWay 83 = .ok (.iload 6, 2) := by decide +kernel
theorem dX6_gatherWay_85 : decode cX6_gatherWay 85 = .ok (.iload 7, 2) := by decide +kernel
theorem dX6_gatherWay_87 : decode cX6_gatherWay 87 = .ok (.invokevirtual 105, 3) := by decide +kernel
theorem dX6_gatherWay_90 : decode cX6_gatherWay 90 = .ok (.bastore, 1) := by decide +kernel
theorem dX6_gatherWay_91 : decode cX6_gatherWay 91 = .ok (.aload_n 0, 1) := by decide +kernel
theorem dX6_gatherWay_92 : decode cX6_gatherWay 92 = .ok (.getfield 19, 3) := by decide +kernel
theorem dX6_gatherWay_95 : decode cX6_gatherWay 95 = .ok (.iload_n 2, 1) := by decide +kernel
theorem dX6_gatherWay_96 : decode cX6_gatherWay 96 = .ok (.iload 6, 2) := by decide +kernel
theorem dX6_gatherWay_98 : decode cX6_gatherWay 98 = .ok (.iload 7, 2) := by decide +kernel
theorem dX6_gatherWay_100 : decode cX6_gatherWay 100 = .ok (.invokestatic 69, 3) := by decide +kernel
theorem dX6_gatherWay_103 : decode cX6_gatherWay 103 = .ok (.iastore, 1) := by decide +kernel
theorem dX6_gatherWay_104 : decode cX6_gatherWay 104 = .ok (.aload_n 0, 1) := by decide +kernel
theorem dX6_gatherWay_105 : decode cX6_gatherWay 105 = .ok (.getfield 9, 3) := by decide +kernel
theorem dX6_gatherWay_108 : decode cX6_gatherWay 108 = .ok (.iload_n 2, 1) := by decide +kernel
theorem dX6_gatherWay_109 : decode cX6_gatherWay 109 = .ok (.baload, 1) := by decide +kernel
theorem dX6_gatherWay_110 : decode cX6_gatherWay 110 = .ok (.ifCond .eq 8, 3) := by decide +kernel
theorem dX6_gatherWay_113 : decode cX6_gatherWay 113 = .ok (.iload 5, 2) := by decide +kernel
theorem dX6_gatherWay_115 : decode cX6_gatherWay 115 = .ok (.goto 4, 3) := by decide +kernel
theorem dX6_gatherWay_118 : decode cX6_gatherWay 118 = .ok (.iconst 0, 1) := by decide +kernel
theorem dX6_gatherWay_119 : decode cX6_gatherWay 119 = .ok (.istore 5, 2) := by decide +kernel
theorem dX6_gatherWay_121 : decode cX6_gatherWay 121 = .ok (.aload_n 1, 1) := by decide +kernel
theorem dX6_gatherWay_122 : decode cX6_gatherWay 122 = .ok (.iload_n 2, 1) := by decide +kernel
theorem dX6_gatherWay_123 : decode cX6_gatherWay 123 = .ok (.bipush 8, 2) := by decide +kernel
theorem dX6_gatherWay_125 : decode cX6_gatherWay 125 = .ok (.iload 5, 2) := by decide +kernel
theorem dX6_gatherWay_127 : decode cX6_gatherWay 127 = .ok (.invokevirtual 92, 3) := by decide +kernel
theorem dX6_gatherWay_130 : decode cX6_gatherWay 130 = .ok (.return_, 1) := by decide +kernel
theorem dX6_ramAll_0 : decode cX6_ramAll 0 = .ok (.iconst 0, 1) := by decide +kernel
theorem dX6_ramAll_1 : decode cX6_ramAll 1 = .ok (.istore_n 3, 1) := by decide +kernel
theorem dX6_ramAll_2 : decode cX6_ramAll 2 = .ok (.iload_n 3, 1) := by decide +kernel
theorem dX6_ramAll_3 : decode cX6_ramAll 3 = .ok (.bipush 12, 2) := by decide +kernel
theorem dX6_ramAll_5 : decode cX6_ramAll 5 = .ok (.if_icmp .ge 39, 3) := by decide +kernel
theorem dX6_ramAll_8 : decode cX6_ramAll 8 = .ok (.aload_n 0, 1) := by decide +kernel
theorem dX6_ramAll_9 : decode cX6_ramAll 9 = .ok (.aload_n 1, 1) := by decide +kernel
theorem dX6_ramAll_10 : decode cX6_ramAll 10 = .ok (.invokevirtual 109, 3) := by decide +kernel
theorem dX6_ramAll_13 : decode cX6_ramAll 13 = .ok (.istore 4, 2) := by decide +kernel
theorem dX6_ramAll_15 : decode cX6_ramAll 15 = .ok (.iload 4, 2) := by decide +kernel
theorem dX6_ramAll_17 : decode cX6_ramAll 17 = .ok (.iconst (-1), 1) := by decide +kernel
theorem dX6_ramAll_18 : decode cX6_ramAll 18 = .ok (.if_icmp .ne 4, 3) := by decide +kernel
theorem dX6_ramAll_21 : decode cX6_ramAll 21 = .ok (.return_, 1) := by decide +kernel
theorem dX6_ramAll_22 : decode cX6_ramAll 22 = .ok (.aload_n 0, 1) := by decide +kernel
theorem dX6_ramAll_23 : decode cX6_ramAll 23 = .ok (.aload_n 1, 1) := by decide +kernel
theorem dX6_ramAll_24 : decode cX6_ramAll 24 = .ok (.iload_n 2, 1) := by decide +kernel
theorem dX6_ramAll_25 : decode cX6_ramAll 25 = .ok (.iload 4, 2) := by decide +kernel
theorem dX6_ramAll_27 : decode cX6_ramAll 27 = .ok (.bipush 12, 2) := by decide +kernel
theorem dX6_ramAll_29 : decode cX6_ramAll 29 = .ok (.idiv, 1) := by decide +kernel
theorem dX6_ramAll_30 : decode cX6_ramAll 30 = .ok (.iload 4, 2) := by decide +kernel
theorem dX6_ramAll_32 : decode cX6_ramAll 32 = .ok (.bipush 12, 2) := by decide +kernel
theorem dX6_ramAll_34 : decode cX6_ramAll 34 = .ok (.irem, 1) := by decide +kernel
theorem dX6_ramAll_35 : decode cX6_ramAll 35 = .ok (.invokevirtual 113, 3) := by decide +kernel
theorem dX6_ramAll_38 : decode cX6_ramAll 38 = .ok (.iinc 3 1, 3) := by decide +kernel
theorem dX6_ramAll_41 : decode cX6_ramAll 41 = .ok (.goto (-39), 3) := by decide +kernel
theorem dX6_ramAll_44 : decode cX6_ramAll 44 = .ok (.return_, 1) := by decide +kernel
theorem dX6_firstClash_0 : decode cX6_firstClash 0 = .ok (.iconst 0, 1) := by decide +kernel
theorem dX6_firstClash_1 : decode cX6_firstClash 1 = .ok (.istore_n 2, 1) := by decide +kernel
theorem dX6_firstClash_2 : decode cX6_firstClash 2 = .ok (.iload_n 2, 1) := by decide +kernel
theorem dX6_firstClash_3 : decode cX6_firstClash 3 = .ok (.aload_n 1, 1) := by decide +kernel
theorem dX6_firstClash_4 : decode cX6_firstClash 4 = .ok (.getfield 58, 3) := by decide +kernel
theorem dX6_firstClash_7 : decode cX6_firstClash 7 = .ok (.if_icmp .ge 43, 3) := by decide +kernel
theorem dX6_firstClash_10 : decode cX6_firstClash 10 = .ok (.iload_n 2, 1) := by decide +kernel
theorem dX6_firstClash_11 : decode cX6_firstClash 11 = .ok (.iconst 1, 1) := by decide +kernel
theorem dX6_firstClash_12 : decode cX6_firstClash 12 = .ok (.iadd, 1) := by decide +kernel
theorem dX6_firstClash_13 : decode cX6_firstClash 13 = .ok (.istore_n 3, 1) := by decide +kernel
theorem dX6_firstClash_14 : decode cX6_firstClash 14 = .ok (.iload_n 3, 1) := by decide +kernel
theorem dX6_firstClash_15 : decode cX6_firstClash 15 = .ok (.aload_n 1, 1) := by decide +kernel
theorem dX6_firstClash_16 : decode cX6_firstClash 16 = .ok (.getfield 58, 3) := by decide +kernel
theorem dX6_firstClash_19 : decode cX6_firstClash 19 = .ok (.if_icmp .ge 25, 3) := by decide +kernel
theorem dX6_firstClash_22 : decode cX6_firstClash 22 = .ok (.aload_n 0, 1) := by decide +kernel
theorem dX6_firstClash_23 : decode cX6_firstClash 23 = .ok (.iload_n 2, 1) := by decide +kernel
theorem dX6_firstClash_24 : decode cX6_firstClash 24 = .ok (.iload_n 3, 1) := by decide +kernel
theorem dX6_firstClash_25 : decode cX6_firstClash 25 = .ok (.invokevirtual 117, 3) := by decide +kernel
theorem dX6_firstClash_28 : decode cX6_firstClash 28 = .ok (.ifCond .eq 10, 3) := by decide +kernel
theorem dX6_firstClash_31 : decode cX6_firstClash 31 = .ok (.iload_n 2, 1) := by decide +kernel
theorem dX6_firstClash_32 : decode cX6_firstClash 32 = .ok (.bipush 12, 2) := by decide +kernel
theorem dX6_firstClash_34 : decode cX6_firstClash 34 = .ok (.imul, 1) := by decide +kernel
theorem dX6_firstClash_35 : decode cX6_firstClash 35 = .ok (.iload_n 3, 1) := by decide +kernel
theorem dX6_firstClash_36 : decode cX6_firstClash 36 = .ok (.iadd, 1) := by decide +kernel
theorem dX6_firstClash_37 : decode cX6_firstClash 37 = .ok (.ireturn, 1) := by decide +kernel
theorem dX6_firstClash_38 : decode cX6_firstClash 38 = .ok (.iinc 3 1, 3) := by decide +kernel
theorem dX6_firstClash_41 : decode cX6_firstClash 41 = .ok (.goto (-27), 3) := by decide +kernel
theorem dX6_firstClash_44 : decode cX6_firstClash 44 = .ok (.iinc 2 1, 3) := by decide +kernel
theorem dX6_firstClash_47 : decode cX6_firstClash 47 = .ok (.goto (-45), 3) := by decide +kernel
theorem dX6_firstClash_50 : decode cX6_firstClash 50 = .ok (.iconst (-1), 1) := by decide +kernel
theorem dX6_firstClash_51 : decode cX6_firstClash 51 = .ok (.ireturn, 1) := by decide +kernel
theorem dX6_doClash_0 : decode cX6_doClash 0 = .ok (.aload_n 0, 1) := by decide +kernel
theorem dX6_doClash_1 : decode cX6_doClash 1 = .ok (.getfield 9, 3) := by decide +kernel
theorem dX6_doClash_4 : decode cX6_doClash 4 = .ok (.iload_n 1, 1) := by decide +kernel
theorem dX6_doClash_5 : decode cX6_doClash 5 = .ok (.baload, 1) := by decide +kernel
theorem dX6_doClash_6 : decode cX6_doClash 6 = .ok (.ifCond .eq 22, 3) := by decide +kernel
theorem dX6_doClash_9 : decode cX6_doClash 9 = .ok (.aload_n 0, 1) := by decide +kernel
theorem dX6_doClash_10 : decode cX6_doClash 10 = .ok (.getfield 19, 3) := by decide +kernel
theorem dX6_doClash_13 : decode cX6_doClash 13 = .ok (.iload_n 1, 1) := by decide +kernel
theorem dX6_doClash_14 : decode cX6_doClash 14 = .ok (.iaload, 1) := by decide +kernel
theorem dX6_doClash_15 : decode cX6_doClash 15 = .ok (.aload_n 0, 1) := by decide +kernel
theorem dX6_doClash_16 : decode cX6_doClash 16 = .ok (.getfield 15, 3) := by decide +kernel
theorem dX6_doClash_19 : decode cX6_doClash 19 = .ok (.iload_n 2, 1) := by decide +kernel
theorem dX6_doClash_20 : decode cX6_doClash 20 = .ok (.iaload, 1) := by decide +kernel
theorem dX6_doClash_21 : decode cX6_doClash 21 = .ok (.if_icmp .ne 7, 3) := by decide +kernel
theorem dX6_doClash_24 : decode cX6_doClash 24 = .ok (.iconst 1, 1) := by decide +kernel
theorem dX6_doClash_25 : decode cX6_doClash 25 = .ok (.goto 4, 3) := by decide +kernel
theorem dX6_doClash_28 : decode cX6_doClash 28 = .ok (.iconst 0, 1) := by decide +kernel
theorem dX6_doClash_29 : decode cX6_doClash 29 = .ok (.istore_n 3, 1) := by decide +kernel
theorem dX6_doClash_30 : decode cX6_doClash 30 = .ok (.aload_n 0, 1) := by decide +kernel
theorem dX6_doClash_31 : decode cX6_doClash 31 = .ok (.getfield 9, 3) := by decide +kernel
theorem dX6_doClash_34 : decode cX6_doClash 34 = .ok (.iload_n 2, 1) := by decide +kernel
theorem dX6_doClash_35 : decode cX6_doClash 35 = .ok (.baload, 1) := by decide +kernel
theorem dX6_doClash_36 : decode cX6_doClash 36 = .ok (.ifCond .eq 22, 3) := by decide +kernel
theorem dX6_doClash_39 : decode cX6_doClash 39 = .ok (.aload_n 0, 1) := by decide +kernel
theorem dX6_doClash_40 : decode cX6_doClash 40 = .ok (.getfield 19, 3) := by decide +kernel
theorem dX6_doClash_43 : decode cX6_doClash 43 = .ok (.iload_n 2, 1) := by decide +kernel
theorem dX6_doClash_44 : decode cX6_doClash 44 = .ok (.iaload, 1) := by decide +kernel
theorem dX6_doClash_45 : decode cX6_doClash 45 = .ok (.aload_n 0, 1) := by decide +kernel
theorem dX6_doClash_46 : decode cX6_doClash 46 = .ok (.getfield 15, 3) := by decide +kernel
theorem dX6_doClash_49 : decode cX6_doClash 49 = .ok (.iload_n 1, 1) := by decide +kernel
theorem dX6_doClash_50 : decode cX6_doClash 50 = .ok (.iaload, 1) := by decide +kernel
theorem dX6_doClash_51 : decode cX6_doClash 51 = .ok (.if_icmp .ne 7, 3) := by decide +kernel
theorem dX6_doClash_54 : decode cX6_doClash 54 = .ok (.iconst 1, 1) := by decide +kernel
theorem dX6_doClash_55 : decode cX6_doClash 55 = .ok (.goto 4, 3) := by decide +kernel
theorem dX6_doClash_58 : decode cX6_doClash 58 = .ok (.iconst 0, 1) := by decide +kernel
theorem dX6_doClash_59 : decode cX6_doClash 59 = .ok (.istore 4, 2) := by decide +kernel
theorem dX6_doClash_61 : decode cX6_doClash 61 = .ok (.aload_n 0, 1) := by decide +kernel
theorem dX6_doClash_62 : decode cX6_doClash 62 = .ok (.getfield 9, 3) := by decide +kernel
theorem dX6_doClash_65 : decode cX6_doClash 65 = .ok (.iload_n 1, 1) := by decide +kernel
theorem dX6_doClash_66 : decode cX6_doClash 66 = .ok (.baload, 1) := by decide +kernel
theorem dX6_doClash_67 : decode cX6_doClash 67 = .ok (.ifCond .eq 42, 3) := by decide +kernel
theorem dX6_doClash_70 : decode cX6_doClash 70 = .ok (.aload_n 0, 1) := by decide +kernel
theorem dX6_doClash_71 : decode cX6_doClash 71 = .ok (.getfield 9, 3) := by decide +kernel
theorem dX6_doClash_74 : decode cX6_doClash 74 = .ok (.iload_n 2, 1) := by decide +kernel
theorem dX6_doClash_75 : decode cX6_doClash 75 = .ok (.baload, 1) := by decide +kernel
theorem dX6_doClash_76 : decode cX6_doClash 76 = .ok (.ifCond .eq 33, 3) := by decide +kernel
theorem dX6_doClash_79 : decode cX6_doClash 79 = .ok (.aload_n 0, 1) := by decide +kernel
theorem dX6_doClash_80 : decode cX6_doClash 80 = .ok (.getfield 19, 3) := by decide +kernel
theorem dX6_doClash_83 : decode cX6_doClash 83 = .ok (.iload_n 1, 1) := by decide +kernel
theorem dX6_doClash_84 : decode cX6_doClash 84 = .ok (.iaload, 1) := by decide +kernel
theorem dX6_doClash_85 : decode cX6_doClash 85 = .ok (.aload_n 0, 1) := by decide +kernel
theorem dX6_doClash_86 : decode cX6_doClash 86 = .ok (.getfield 19, 3) := by decide +kernel
theorem dX6_doClash_89 : decode cX6_doClash 89 = .ok (.iload_n 2, 1) := by decide +kernel
theorem dX6_doClash_90 : decode cX6_doClash 90 = .ok (.iaload, 1) := by decide +kernel
theorem dX6_doClash_91 : decode cX6_doClash 91 = .ok (.if_icmp .eq 12, 3) := by decide +kernel
theorem dX6_doClash_94 : decode cX6_doClash 94 = .ok (.iload_n 3, 1) := by decide +kernel
theorem dX6_doClash_95 : decode cX6_doClash 95 = .ok (.ifCond .eq 12, 3) := by decide +kernel
theorem dX6_doClash_98 : decode cX6_doClash 98 = .ok (.iload 4, 2) := by decide +kernel
theorem dX6_doClash_100 : decode cX6_doClash 100 = .ok (.ifCond .eq 7, 3) := by decide +kernel
theorem dX6_doClash_103 : decode cX6_doClash 103 = .ok (.iconst 1, 1) := by decide +kernel
theorem dX6_doClash_104 : decode cX6_doClash 104 = .ok (.goto 4, 3) := by decide +kernel
theorem dX6_doClash_107 : decode cX6_doClash 107 = .ok (.iconst 0, 1) := by decide +kernel
theorem dX6_doClash_108 : decode cX6_doClash 108 = .ok (.ireturn, 1) := by decide +kernel
theorem dX6_doClash_109 : decode cX6_doClash 109 = .ok (.iload_n 3, 1) := by decide +kernel
theorem dX6_doClash_110 : decode cX6_doClash 110 = .ok (.ifCond .ne 8, 3) := by decide +kernel
theorem dX6_doClash_113 : decode cX6_doClash 113 = .ok (.iload 4, 2) := by decide +kernel
theorem dX6_doClash_115 : decode cX6_doClash 115 = .ok (.ifCond .eq 7, 3) := by decide +kernel
theorem dX6_doClash_118 : decode cX6_doClash 118 = .ok (.iconst 1, 1) := by decide +kernel
theorem dX6_doClash_119 : decode cX6_doClash 119 = .ok (.goto 4, 3) := by decide +kernel
theorem dX6_doClash_122 : decode cX6_doClash 122 = .ok (.iconst 0, 1) := by decide +kernel
theorem dX6_doClash_123 : decode cX6_doClash 123 = .ok (.ireturn, 1) := by decide +kernel
theorem dX6_collide_0 : decode cX6_collide 0 = .ok (.aload_n 0, 1) := by decide +kernel
theorem dX6_collide_1 : decode cX6_collide 1 = .ok (.aload_n 1, 1) := by decide +kernel
theorem dX6_collide_2 : decode cX6_collide 2 = .ok (.iload_n 3, 1) := by decide +kernel
theorem dX6_collide_3 : decode cX6_collide 3 = .ok (.iload 4, 2) := by decide +kernel
theorem dX6_collide_5 : decode cX6_collide 5 = .ok (.invokevirtual 120, 3) := by decide +kernel
theorem dX6_collide_8 : decode cX6_collide 8 = .ok (.istore 5, 2) := by decide +kernel
theorem dX6_collide_10 : decode cX6_collide 10 = .ok (.aload_n 0, 1) := by decide +kernel
theorem dX6_collide_11 : decode cX6_collide 11 = .ok (.aload_n 1, 1) := by decide +kernel
theorem dX6_collide_12 : decode cX6_collide 12 = .ok (.iload 4, 2) := by decide +kernel
theorem dX6_collide_14 : decode cX6_collide 14 = .ok (.iload_n 3, 1) := by decide +kernel
theorem dX6_collide_15 : decode cX6_collide 15 = .ok (.invokevirtual 120, 3) := by decide +kernel
theorem dX6_collide_18 : decode cX6_collide 18 = .ok (.istore 6, 2) := by decide +kernel
theorem dX6_collide_20 : decode cX6_collide 20 = .ok (.aload_n 0, 1) := by decide +kernel
theorem dX6_collide_21 : decode cX6_collide 21 = .ok (.aload_n 1, 1) := by decide +kernel
theorem dX6_collide_22 : decode cX6_collide 22 = .ok (.iload_n 3, 1) := by decide +kernel
theorem dX6_collide_23 : decode cX6_collide 23 = .ok (.iload 4, 2) := by decide +kernel
theorem dX6_collide_25 : decode cX6_collide 25 = .ok (.invokevirtual 124, 3) := by decide +kernel
theorem dX6_collide_28 : decode cX6_collide 28 = .ok (.aload_n 0, 1) := by decide +kernel
theorem dX6_collide_29 : decode cX6_collide 29 = .ok (.aload_n 1, 1) := by decide +kernel
theorem dX6_collide_30 : decode cX6_collide 30 = .ok (.iload 4, 2) := by decide +kernel
theorem dX6_collide_32 : decode cX6_collide 32 = .ok (.iload_n 3, 1) := by decide +kernel
theorem dX6_collide_33 : decode cX6_collide 33 = .ok (.invokevirtual 124, 3) := by decide +kernel
theorem dX6_collide_36 : decode cX6_collide 36 = .ok (.aload_n 0, 1) := by decide +kernel
theorem dX6_collide_37 : decode cX6_collide 37 = .ok (.aload_n 1, 1) := by decide +kernel
theorem dX6_collide_38 : decode cX6_collide 38 = .ok (.iload_n 3, 1) := by decide +kernel
theorem dX6_collide_39 : decode cX6_collide 39 = .ok (.iload 5, 2) := by decide +kernel
theorem dX6_collide_41 : decode cX6_collide 41 = .ok (.invokevirtual 127, 3) := by decide +kernel
theorem dX6_collide_44 : decode cX6_collide 44 = .ok (.aload_n 0, 1) := by decide +kernel
theorem dX6_collide_45 : decode cX6_collide 45 = .ok (.aload_n 1, 1) := by decide +kernel
theorem dX6_collide_46 : decode cX6_collide 46 = .ok (.iload 4, 2) := by decide +kernel
theorem dX6_collide_48 : decode cX6_collide 48 = .ok (.iload 6, 2) := by decide +kernel
theorem dX6_collide_50 : decode cX6_collide 50 = .ok (.invokevirtual 127, 3) := by decide +kernel
theorem dX6_collide_53 : decode cX6_collide 53 = .ok (.aload_n 0, 1) := by decide +kernel
theorem dX6_collide_54 : decode cX6_collide 54 = .ok (.getfield 9, 3) := by decide +kernel
theorem dX6_collide_57 : decode cX6_collide 57 = .ok (.iload_n 3, 1) := by decide +kernel
theorem dX6_collide_58 : decode cX6_collide 58 = .ok (.baload, 1) := by decide +kernel
theorem dX6_collide_59 : decode cX6_collide 59 = .ok (.ifCond .eq 33, 3) := by decide +kernel
theorem dX6_collide_62 : decode cX6_collide 62 = .ok (.aload_n 0, 1) := by decide +kernel
theorem dX6_collide_63 : decode cX6_collide 63 = .ok (.getfield 9, 3) := by decide +kernel
theorem dX6_collide_66 : decode cX6_collide 66 = .ok (.iload 4, 2) := by decide +kernel
theorem dX6_collide_68 : decode cX6_collide 68 = .ok (.baload, 1) := by decide +kernel
theorem dX6_collide_69 : decode cX6_collide 69 = .ok (.ifCond .eq 23, 3) := by decide +kernel
theorem dX6_collide_72 : decode cX6_collide 72 = .ok (.aload_n 0, 1) := by decide +kernel
theorem dX6_collide_73 : decode cX6_collide 73 = .ok (.getfield 19, 3) := by decide +kernel
theorem dX6_collide_76 : decode cX6_collide 76 = .ok (.iload_n 3, 1) := by decide +kernel
theorem dX6_collide_77 : decode cX6_collide 77 = .ok (.iaload, 1) := by decide +kernel
theorem dX6_collide_78 : decode cX6_collide 78 = .ok (.aload_n 0, 1) := by decide +kernel
theorem dX6_collide_79 : decode cX6_collide 79 = .ok (.getfield 19, 3) := by decide +kernel
theorem dX6_collide_82 : decode cX6_collide 82 = .ok (.iload 4, 2) := by decide +kernel
theorem dX6_collide_84 : decode cX6_collide 84 = .ok (.iaload, 1) := by decide +kernel
theorem dX6_collide_85 : decode cX6_collide 85 = .ok (.if_icmp .ne 7, 3) := by decide +kernel
theorem dX6_collide_88 : decode cX6_collide 88 = .ok (.iconst 1, 1) := by decide +kernel
theorem dX6_collide_89 : decode cX6_collide 89 = .ok (.goto 4, 3) := by decide +kernel
theorem dX6_collide_92 : decode cX6_collide 92 = .ok (.iconst 0, 1) := by decide +kernel
theorem dX6_collide_93 : decode cX6_collide 93 = .ok (.istore 7, 2) := by decide +kernel
theorem dX6_collide_95 : decode cX6_collide 95 = .ok (.aload_n 1, 1) := by decide +kernel
theorem dX6_collide_96 : decode cX6_collide 96 = .ok (.iload_n 3, 1) := by decide +kernel
theorem dX6_collide_97 : decode cX6_collide 97 = .ok (.iconst 5, 1) := by decide +kernel
theorem dX6_collide_98 : decode cX6_collide 98 = .ok (.invokevirtual 65, 3) := by decide +kernel
theorem dX6_collide_101 : decode cX6_collide 101 = .ok (.aload_n 1, 1) := by decide +kernel
theorem dX6_collide_102 : decode cX6_collide 102 = .ok (.iload 4, 2) := by decide +kernel
theorem dX6_collide_104 : decode cX6_collide 104 = .ok (.iconst 5, 1) := by decide +kernel
theorem dX6_collide_105 : decode cX6_collide 105 = .ok (.invokevirtual 65, 3) := by decide +kernel
theorem dX6_collide_108 : decode cX6_collide 108 = .ok (.if_icmp .lt 7, 3) := by decide +kernel
theorem dX6_collide_111 : decode cX6_collide 111 = .ok (.iconst 1, 1) := by decide +kernel
theorem dX6_collide_112 : decode cX6_collide 112 = .ok (.goto 4, 3) := by decide +kernel
theorem dX6_collide_115 : decode cX6_collide 115 = .ok (.iconst 0, 1) := by decide +kernel
theorem dX6_collide_116 : decode cX6_collide 116 = .ok (.istore 8, 2) := by decide +kernel
theorem dX6_collide_118 : decode cX6_collide 118 = .ok (.aload_n 0, 1) := by decide +kernel
theorem dX6_collide_119 : decode cX6_collide 119 = .ok (.getfield 9, 3) := by decide +kernel
theorem dX6_collide_122 : decode cX6_collide 122 = .ok (.iload_n 3, 1) := by decide +kernel
theorem dX6_collide_123 : decode cX6_collide 123 = .ok (.iload 7, 2) := by decide +kernel
theorem dX6_collide_125 : decode cX6_collide 125 = .ok (.ifCond .eq 12, 3) := by decide +kernel
theorem dX6_collide_128 : decode cX6_collide 128 = .ok (.iload 8, 2) := by decide +kernel
theorem dX6_collide_130 : decode cX6_collide 130 = .ok (.ifCond .eq 7, 3) := by decide +kernel
theorem dX6_collide_133 : decode cX6_collide 133 = .ok (.iconst 1, 1) := by decide +kernel
theorem dX6_collide_134 : decode cX6_collide 134 = .ok (.goto 4, 3) := by decide +kernel
theorem dX6_collide_137 : decode cX6_collide 137 = .ok (.iconst 0, 1) := by decide +kernel
theorem dX6_collide_138 : decode cX6_collide 138 = .ok (.bastore, 1) := by decide +kernel
theorem dX6_collide_139 : decode cX6_collide 139 = .ok (.aload_n 0, 1) := by decide +kernel
theorem dX6_collide_140 : decode cX6_collide 140 = .ok (.getfield 9, 3) := by decide +kernel
theorem dX6_collide_143 : decode cX6_collide 143 = .ok (.iload 4, 2) := by decide +kernel
theorem dX6_collide_145 : decode cX6_collide 145 = .ok (.iload 7, 2) := by decide +kernel
theorem dX6_collide_147 : decode cX6_collide 147 = .ok (.ifCond .eq 12, 3) := by decide +kernel
theorem dX6_collide_150 : decode cX6_collide 150 = .ok (.iload 8, 2) := by decide +kernel
theorem dX6_collide_152 : decode cX6_collide 152 = .ok (.ifCond .ne 7, 3) := by decide +kernel
theorem dX6_collide_155 : decode cX6_collide 155 = .ok (.iconst 1, 1) := by decide +kernel
theorem dX6_collide_156 : decode cX6_collide 156 = .ok (.goto 4, 3) := by decide +kernel
theorem dX6_collide_159 : decode cX6_collide 159 = .ok (.iconst 0, 1) := by decide +kernel
theorem dX6_collide_160 : decode cX6_collide 160 = .ok (.bastore, 1) := by decide +kernel
theorem dX6_collide_161 : decode cX6_collide 161 = .ok (.aload_n 0, 1) := by decide +kernel
theorem dX6_collide_162 : decode cX6_collide 162 = .ok (.aload_n 1, 1) := by decide +kernel
theorem dX6_collide_163 : decode cX6_collide 163 = .ok (.iload_n 2, 1) := by decide +kernel
theorem dX6_collide_164 : decode cX6_collide 164 = .ok (.iload_n 3, 1) := by decide +kernel
theorem dX6_collide_165 : decode cX6_collide 165 = .ok (.iload 4, 2) := by decide +kernel
theorem dX6_collide_167 : decode cX6_collide 167 = .ok (.invokevirtual 130, 3) := by decide +kernel
theorem dX6_collide_170 : decode cX6_collide 170 = .ok (.aload_n 1, 1) := by decide +kernel
theorem dX6_collide_171 : decode cX6_collide 171 = .ok (.iload_n 2, 1) := by decide +kernel
theorem dX6_collide_172 : decode cX6_collide 172 = .ok (.iload_n 3, 1) := by decide +kernel
theorem dX6_collide_173 : decode cX6_collide 173 = .ok (.iload 4, 2) := by decide +kernel
theorem dX6_collide_175 : decode cX6_collide 175 = .ok (.iload 5, 2) := by decide +kernel
theorem dX6_collide_177 : decode cX6_collide 177 = .ok (.iload 6, 2) := by decide +kernel
theorem dX6_collide_179 : decode cX6_collide 179 = .ok (.invokevirtual 133, 3) := by decide +kernel
theorem dX6_collide_182 : decode cX6_collide 182 = .ok (.return_, 1) := by decide +kernel
theorem dX6_lossOf_0 : decode cX6_lossOf 0 = .ok (.aload_n 1, 1) := by decide +kernel
theorem dX6_lossOf_1 : decode cX6_lossOf 1 = .ok (.iload_n 3, 1) := by decide +kernel
theorem dX6_lossOf_2 : decode cX6_lossOf 2 = .ok (.iconst 5, 1) := by decide +kernel
theorem dX6_lossOf_3 : decode cX6_lossOf 3 = .ok (.invokevirtual 65, 3) := by decide +kernel
theorem dX6_lossOf_6 : decode cX6_lossOf 6 = .ok (.istore 4, 2) := by decide +kernel
theorem dX6_lossOf_8 : decode cX6_lossOf 8 = .ok (.iconst 0, 1) := by decide +kernel
theorem dX6_lossOf_9 : decode cX6_lossOf 9 = .ok (.istore 5, 2) := by decide +kernel
theorem dX6_lossOf_11 : decode cX6_lossOf 11 = .ok (.aload_n 0, 1) := by decide +kernel
theorem dX6_lossOf_12 : decode cX6_lossOf 12 = .ok (.getfield 9, 3) := by decide +kernel
theorem dX6_lossOf_15 : decode cX6_lossOf 15 = .ok (.iload_n 3, 1) := by decide +kernel
theorem dX6_lossOf_16 : decode cX6_lossOf 16 = .ok (.baload, 1) := by decide +kernel
theorem dX6_lossOf_17 : decode cX6_lossOf 17 = .ok (.ifCond .eq 30, 3) := by decide +kernel
theorem dX6_lossOf_20 : decode cX6_lossOf 20 = .ok (.iload 5, 2) := by decide +kernel
theorem dX6_lossOf_22 : decode cX6_lossOf 22 = .ok (.iload 4, 2) := by decide +kernel
theorem dX6_lossOf_24 : decode cX6_lossOf 24 = .ok (.getstatic 137, 3) := by decide +kernel
theorem dX6_lossOf_27 : decode cX6_lossOf 27 = .ok (.aload_n 1, 1) := by decide +kernel
theorem dX6_lossOf_28 : decode cX6_lossOf 28 = .ok (.iload_n 2, 1) := by decide +kernel
theorem dX6_lossOf_29 : decode cX6_lossOf 29 = .ok (.iconst 3, 1) := by decide +kernel
theorem dX6_lossOf_30 : decode cX6_lossOf 30 = .ok (.invokevirtual 65, 3) := by decide +kernel
theorem dX6_lossOf_33 : decode cX6_lossOf 33 = .ok (.aload_n 1, 1) := by decide +kernel
theorem dX6_lossOf_34 : decode cX6_lossOf 34 = .ok (.iload_n 3, 1) := by decide +kernel
theorem dX6_lossOf_35 : decode cX6_lossOf 35 = .ok (.iconst 3, 1) := by decide +kernel
theorem dX6_lossOf_36 : decode cX6_lossOf 36 = .ok (.invokevirtual 65, 3) := by decide +kernel
theorem dX6_lossOf_39 : decode cX6_lossOf 39 = .ok (.invokestatic 140, 3) := by decide +kernel
theorem dX6_lossOf_42 : decode cX6_lossOf 42 = .ok (.iaload, 1) := by decide +kernel
theorem dX6_lossOf_43 : decode cX6_lossOf 43 = .ok (.imul, 1) := by decide +kernel
theorem dX6_lossOf_44 : decode cX6_lossOf 44 = .ok (.iadd, 1) := by decide +kernel
theorem dX6_lossOf_45 : decode cX6_lossOf 45 = .ok (.istore 5, 2) := by decide +kernel
theorem dX6_lossOf_47 : decode cX6_lossOf 47 = .ok (.aload_n 0, 1) := by decide +kernel
theorem dX6_lossOf_48 : decode cX6_lossOf 48 = .ok (.getfield 9, 3) := by decide +kernel
theorem dX6_lossOf_51 : decode cX6_lossOf 51 = .ok (.iload_n 2, 1) := by decide +kernel
theorem dX6_lossOf_52 : decode cX6_lossOf 52 = .ok (.baload, 1) := by decide +kernel
theorem dX6_lossOf_53 : decode cX6_lossOf 53 = .ok (.ifCond .eq 12, 3) := by decide +kernel
theorem dX6_lossOf_56 : decode cX6_lossOf 56 = .ok (.iload 5, 2) := by decide +kernel
theorem dX6_lossOf_58 : decode cX6_lossOf 58 = .ok (.iload 4, 2) := by decide +kernel
theorem dX6_lossOf_60 : decode cX6_lossOf 60 = .ok (.iconst 2, 1) := by decide +kernel
theorem dX6_lossOf_61 : decode cX6_lossOf 61 = .ok (.idiv, 1) := by decide +kernel
theorem dX6_lossOf_62 : decode cX6_lossOf 62 = .ok (.iadd, 1) := by decide +kernel
theorem dX6_lossOf_63 : decode cX6_lossOf 63 = .ok (.istore 5, 2) := by decide +kernel
theorem dX6_lossOf_65 : decode cX6_lossOf 65 = .ok (.iload 5, 2) := by decide +kernel
theorem dX6_lossOf_67 : decode cX6_lossOf 67 = .ok (.ireturn, 1) := by decide +kernel
theorem dX6_noteStriker_0 : decode cX6_noteStriker 0 = .ok (.aload_n 0, 1) := by decide +kernel
theorem dX6_noteStriker_1 : decode cX6_noteStriker 1 = .ok (.getfield 9, 3) := by decide +kernel
theorem dX6_noteStriker_4 : decode cX6_noteStriker 4 = .ok (.iload_n 2, 1) := by decide +kernel
theorem dX6_noteStriker_5 : decode cX6_noteStriker 5 = .ok (.baload, 1) := by decide +kernel
theorem dX6_noteStriker_6 : decode cX6_noteStriker 6 = .ok (.ifCond .eq 20, 3) := by decide +kernel
theorem dX6_noteStriker_9 : decode cX6_noteStriker 9 = .ok (.aload_n 0, 1) := by decide +kernel
theorem dX6_noteStriker_10 : decode cX6_noteStriker 10 = .ok (.getfield 22, 3) := by decide +kernel
theorem dX6_noteStriker_13 : decode cX6_noteStriker 13 = .ok (.iload_n 3, 1) := by decide +kernel
theorem dX6_noteStriker_14 : decode cX6_noteStriker 14 = .ok (.dup2, 1) := by decide +kernel
theorem dX6_noteStriker_15 : decode cX6_noteStriker 15 = .ok (.iaload, 1) := by decide +kernel
theorem dX6_noteStriker_16 : decode cX6_noteStriker 16 = .ok (.iconst 1, 1) := by decide +kernel
theorem dX6_noteStriker_17 : decode cX6_noteStriker 17 = .ok (.aload_n 1, 1) := by decide +kernel
theorem dX6_noteStriker_18 : decode cX6_noteStriker 18 = .ok (.iload_n 2, 1) := by decide +kernel
theorem dX6_noteStriker_19 : decode cX6_noteStriker 19 = .ok (.iconst 0, 1) := by decide +kernel
theorem dX6_noteStriker_20 : decode cX6_noteStriker 20 = .ok (.invokevirtual 65, 3) := by decide +kernel
theorem dX6_noteStriker_23 : decode cX6_noteStriker 23 = .ok (.ishl, 1) := by decide +kernel
theorem dX6_noteStriker_24 : decode cX6_noteStriker 24 = .ok (.ior, 1) := by decide +kernel
theorem dX6_noteStriker_25 : decode cX6_noteStriker 25 = .ok (.iastore, 1) := by decide +kernel
theorem dX6_noteStriker_26 : decode cX6_noteStriker 26 = .ok (.return_, 1) := by decide +kernel
theorem dX6_hurt_0 : decode cX6_hurt 0 = .ok (.aload_n 1, 1) := by decide +kernel
theorem dX6_hurt_1 : decode cX6_hurt 1 = .ok (.iload_n 2, 1) := by decide +kernel
theorem dX6_hurt_2 : decode cX6_hurt 2 = .ok (.iconst 4, 1) := by decide +kernel
theorem dX6_hurt_3 : decode cX6_hurt 3 = .ok (.aload_n 1, 1) := by decide +kernel
theorem dX6_hurt_4 : decode cX6_hurt 4 = .ok (.iload_n 2, 1) := by decide +kernel
theorem dX6_hurt_5 : decode cX6_hurt 5 = .ok (.iconst 4, 1) := by decide +kernel
theorem dX6_hurt_6 : decode cX6_hurt 6 = .ok (.invokevirtual 65, 3) := by decide +kernel
theorem dX6_hurt_9 : decode cX6_hurt 9 = .ok (.iload_n 3, 1) := by decide +kernel
theorem dX6_hurt_10 : decode cX6_hurt 10 = .ok (.isub, 1) := by decide +kernel
theorem dX6_hurt_11 : decode cX6_hurt 11 = .ok (.invokevirtual 92, 3) := by decide +kernel
theorem dX6_hurt_14 : decode cX6_hurt 14 = .ok (.aload_n 1, 1) := by decide +kernel
theorem dX6_hurt_15 : decode cX6_hurt 15 = .ok (.iload_n 2, 1) := by decide +kernel
theorem dX6_hurt_16 : decode cX6_hurt 16 = .ok (.bipush 8, 2) := by decide +kernel
theorem dX6_hurt_18 : decode cX6_hurt 18 = .ok (.iconst 0, 1) := by decide +kernel
theorem dX6_hurt_19 : decode cX6_hurt 19 = .ok (.invokevirtual 92, 3) := by decide +kernel
theorem dX6_hurt_22 : decode cX6_hurt 22 = .ok (.return_, 1) := by decide +kernel
theorem dX6_noteRam_0 : decode cX6_noteRam 0 = .ok (.aload_n 0, 1) := by decide +kernel
theorem dX6_noteRam_1 : decode cX6_noteRam 1 = .ok (.dup, 1) := by decide +kernel
theorem dX6_noteRam_2 : decode cX6_noteRam 2 = .ok (.getfield 37, 3) := by decide +kernel
theorem dX6_noteRam_5 : decode cX6_noteRam 5 = .ok (.iconst 1, 1) := by decide +kernel
theorem dX6_noteRam_6 : decode cX6_noteRam 6 = .ok (.iadd, 1) := by decide +kernel
theorem dX6_noteRam_7 : decode cX6_noteRam 7 = .ok (.putfield 37, 3) := by decide +kernel
theorem dX6_noteRam_10 : decode cX6_noteRam 10 = .ok (.aload_n 0, 1) := by decide +kernel
theorem dX6_noteRam_11 : decode cX6_noteRam 11 = .ok (.getfield 28, 3) := by decide +kernel
theorem dX6_noteRam_14 : decode cX6_noteRam 14 = .ok (.iload_n 3, 1) := by decide +kernel
theorem dX6_noteRam_15 : decode cX6_noteRam 15 = .ok (.bipush 12, 2) := by decide +kernel
theorem dX6_noteRam_17 : decode cX6_noteRam 17 = .ok (.imul, 1) := by decide +kernel
theorem dX6_noteRam_18 : decode cX6_noteRam 18 = .ok (.iload 4, 2) := by decide +kernel
theorem dX6_noteRam_20 : decode cX6_noteRam 20 = .ok (.iadd, 1) := by decide +kernel
theorem dX6_noteRam_21 : decode cX6_noteRam 21 = .ok (.iaload, 1) := by decide +kernel
theorem dX6_noteRam_22 : decode cX6_noteRam 22 = .ok (.iconst (-1), 1) := by decide +kernel
theorem dX6_noteRam_23 : decode cX6_noteRam 23 = .ok (.if_icmp .ne 29, 3) := by decide +kernel
theorem dX6_noteRam_26 : decode cX6_noteRam 26 = .ok (.aload_n 0, 1) := by decide +kernel
theorem dX6_noteRam_27 : decode cX6_noteRam 27 = .ok (.getfield 28, 3) := by decide +kernel
theorem dX6_noteRam_30 : decode cX6_noteRam 30 = .ok (.iload_n 3, 1) := by decide +kernel
theorem dX6_noteRam_31 : decode cX6_noteRam 31 = .ok (.bipush 12, 2) := by decide +kernel
theorem dX6_noteRam_33 : decode cX6_noteRam 33 = .ok (.imul, 1) := by decide +kernel
theorem dX6_noteRam_34 : decode cX6_noteRam 34 = .ok (.iload 4, 2) := by decide +kernel
theorem dX6_noteRam_36 : decode cX6_noteRam 36 = .ok (.iadd, 1) := by decide +kernel
theorem dX6_noteRam_37 : decode cX6_noteRam 37 = .ok (.iload_n 2, 1) := by decide +kernel
theorem dX6_noteRam_38 : decode cX6_noteRam 38 = .ok (.iastore, 1) := by decide +kernel
theorem dX6_noteRam_39 : decode cX6_noteRam 39 = .ok (.aload_n 0, 1) := by decide +kernel
theorem dX6_noteRam_40 : decode cX6_noteRam 40 = .ok (.getfield 28, 3) := by decide +kernel
theorem dX6_noteRam_43 : decode cX6_noteRam 43 = .ok (.iload 4, 2) := by decide +kernel
theorem dX6_noteRam_45 : decode cX6_noteRam 45 = .ok (.bipush 12, 2) := by decide +kernel
theorem dX6_noteRam_47 : decode cX6_noteRam 47 = .ok (.imul, 1) := by decide +kernel
theorem dX6_noteRam_48 : decode cX6_noteRam 48 = .ok (.iload_n 3, 1) := by decide +kernel
theorem dX6_noteRam_49 : decode cX6_noteRam 49 = .ok (.iadd, 1) := by decide +kernel
theorem dX6_noteRam_50 : decode cX6_noteRam 50 = .ok (.iload_n 2, 1) := by decide +kernel
theorem dX6_noteRam_51 : decode cX6_noteRam 51 = .ok (.iastore, 1) := by decide +kernel
theorem dX6_noteRam_52 : decode cX6_noteRam 52 = .ok (.return_, 1) := by decide +kernel
theorem dX6_goAll_0 : decode cX6_goAll 0 = .ok (.iconst 0, 1) := by decide +kernel
theorem dX6_goAll_1 : decode cX6_goAll 1 = .ok (.istore_n 2, 1) := by decide +kernel
theorem dX6_goAll_2 : decode cX6_goAll 2 = .ok (.iload_n 2, 1) := by decide +kernel
theorem dX6_goAll_3 : decode cX6_goAll 3 = .ok (.aload_n 1, 1) := by decide +kernel
theorem dX6_goAll_4 : decode cX6_goAll 4 = .ok (.getfield 58, 3) := by decide +kernel
theorem dX6_goAll_7 : decode cX6_goAll 7 = .ok (.if_icmp .ge 79, 3) := by decide +kernel
theorem dX6_goAll_10 : decode cX6_goAll 10 = .ok (.aload_n 0, 1) := by decide +kernel
theorem dX6_goAll_11 : decode cX6_goAll 11 = .ok (.getfield 9, 3) := by decide +kernel
theorem dX6_goAll_14 : decode cX6_goAll 14 = .ok (.iload_n 2, 1) := by decide +kernel
theorem dX6_goAll_15 : decode cX6_goAll 15 = .ok (.baload, 1) := by decide +kernel
theorem dX6_goAll_16 : decode cX6_goAll 16 = .ok (.ifCond .eq 64, 3) := by decide +kernel
theorem dX6_goAll_19 : decode cX6_goAll 19 = .ok (.aload_n 1, 1) := by decide +kernel
theorem dX6_goAll_20 : decode cX6_goAll 20 = .ok (.iload_n 2, 1) := by decide +kernel
theorem dX6_goAll_21 : decode cX6_goAll 21 = .ok (.iconst 1, 1) := by decide +kernel
theorem dX6_goAll_22 : decode cX6_goAll 22 = .ok (.aload_n 0, 1) := by decide +kernel
theorem dX6_goAll_23 : decode cX6_goAll 23 = .ok (.getfield 19, 3) := by decide +kernel
theorem dX6_goAll_26 : decode cX6_goAll 26 = .ok (.iload_n 2, 1) := by decide +kernel
theorem dX6_goAll_27 : decode cX6_goAll 27 = .ok (.iaload, 1) := by decide +kernel
theorem dX6_goAll_28 : decode cX6_goAll 28 = .ok (.bipush 100, 2) := by decide +kernel
theorem dX6_goAll_30 : decode cX6_goAll 30 = .ok (.idiv, 1) := by decide +kernel
theorem dX6_goAll_31 : decode cX6_goAll 31 = .ok (.invokevirtual 92, 3) := by decide +kernel
theorem dX6_goAll_34 : decode cX6_goAll 34 = .ok (.aload_n 1, 1) := by decide +kernel
theorem dX6_goAll_35 : decode cX6_goAll 35 = .ok (.iload_n 2, 1) := by decide +kernel
theorem dX6_goAll_36 : decode cX6_goAll 36 = .ok (.iconst 2, 1) := by decide +kernel
theorem dX6_goAll_37 : decode cX6_goAll 37 = .ok (.aload_n 0, 1) := by decide +kernel
theorem dX6_goAll_38 : decode cX6_goAll 38 = .ok (.getfield 19, 3) := by decide +kernel
theorem dX6_goAll_41 : decode cX6_goAll 41 = .ok (.iload_n 2, 1) := by decide +kernel
theorem dX6_goAll_42 : decode cX6_goAll 42 = .ok (.iaload, 1) := by decide +kernel
theorem dX6_goAll_43 : decode cX6_goAll 43 = .ok (.bipush 100, 2) := by decide +kernel
theorem dX6_goAll_45 : decode cX6_goAll 45 = .ok (.irem, 1) := by decide +kernel
theorem dX6_goAll_46 : decode cX6_goAll 46 = .ok (.invokevirtual 92, 3) := by decide +kernel
theorem dX6_goAll_49 : decode cX6_goAll 49 = .ok (.aload_n 1, 1) := by decide +kernel
theorem dX6_goAll_50 : decode cX6_goAll 50 = .ok (.iload_n 2, 1) := by decide +kernel
theorem dX6_goAll_51 : decode cX6_goAll 51 = .ok (.bipush 8, 2) := by decide +kernel
theorem dX6_goAll_53 : decode cX6_goAll 53 = .ok (.iconst 0, 1) := by decide +kernel
theorem dX6_goAll_54 : decode cX6_goAll 54 = .ok (.aload_n 1, 1) := by decide +kernel
theorem dX6_goAll_55 : decode cX6_goAll 55 = .ok (.iload_n 2, 1) := by decide +kernel
theorem dX6_goAll_56 : decode cX6_goAll 56 = .ok (.bipush 8, 2) := by decide +kernel
theorem dX6_goAll_58 : decode cX6_goAll 58 = .ok (.invokevirtual 65, 3) := by decide +kernel
theorem dX6_goAll_61 : decode cX6_goAll 61 = .ok (.bipush 90, 2) := by decide +kernel
theorem dX6_goAll_63 : decode cX6_goAll 63 = .ok (.isub, 1) := by decide +kernel
theorem dX6_goAll_64 : decode cX6_goAll 64 = .ok (.invokestatic 143, 3) := by decide +kernel
theorem dX6_goAll_67 : decode cX6_goAll 67 = .ok (.invokevirtual 92, 3) := by decide +kernel
theorem dX6_goAll_70 : decode cX6_goAll 70 = .ok (.aload_n 0, 1) := by decide +kernel
theorem dX6_goAll_71 : decode cX6_goAll 71 = .ok (.getfield 25, 3) := by decide +kernel
theorem dX6_goAll_74 : decode cX6_goAll 74 = .ok (.iload_n 2, 1) := by decide +kernel
theorem dX6_goAll_75 : decode cX6_goAll 75 = .ok (.dup2, 1) := by decide +kernel
theorem dX6_goAll_76 : decode cX6_goAll 76 = .ok (.iaload, 1) := by decide +kernel
theorem dX6_goAll_77 : decode cX6_goAll 77 = .ok (.iconst 1, 1) := by decide +kernel
theorem dX6_goAll_78 : decode cX6_goAll 78 = .ok (.iadd, 1) := by decide +kernel
theorem dX6_goAll_79 : decode cX6_goAll 79 = .ok (.iastore, 1) := by decide +kernel
theorem dX6_goAll_80 : decode cX6_goAll 80 = .ok (.iinc 2 1, 3) := by decide +kernel
theorem dX6_goAll_83 : decode cX6_goAll 83 = .ok (.goto (-81), 3) := by decide +kernel
theorem dX6_goAll_86 : decode cX6_goAll 86 = .ok (.return_, 1) := by decide +kernel
theorem dX6_sinkAll_0 : decode cX6_sinkAll 0 = .ok (.iconst 0, 1) := by decide +kernel
theorem dX6_sinkAll_1 : decode cX6_sinkAll 1 = .ok (.istore_n 2, 1) := by decide +kernel
theorem dX6_sinkAll_2 : decode cX6_sinkAll 2 = .ok (.iload_n 2, 1) := by decide +kernel
theorem dX6_sinkAll_3 : decode cX6_sinkAll 3 = .ok (.aload_n 1, 1) := by decide +kernel
theorem dX6_sinkAll_4 : decode cX6_sinkAll 4 = .ok (.getfield 58, 3) := by decide +kernel
theorem dX6_sinkAll_7 : decode cX6_sinkAll 7 = .ok (.if_icmp .ge 55, 3) := by decide +kernel
theorem dX6_sinkAll_10 : decode cX6_sinkAll 10 = .ok (.aload_n 1, 1) := by decide +kernel
theorem dX6_sinkAll_11 : decode cX6_sinkAll 11 = .ok (.iload_n 2, 1) := by decide +kernel
theorem dX6_sinkAll_12 : decode cX6_sinkAll 12 = .ok (.invokevirtual 61, 3) := by decide +kernel
theorem dX6_sinkAll_15 : decode cX6_sinkAll 15 = .ok (.ifCond .eq 41, 3) := by decide +kernel
theorem dX6_sinkAll_18 : decode cX6_sinkAll 18 = .ok (.aload_n 1, 1) := by decide +kernel
theorem dX6_sinkAll_19 : decode cX6_sinkAll 19 = .ok (.iload_n 2, 1) := by decide +kernel
theorem dX6_sinkAll_20 : decode cX6_sinkAll 20 = .ok (.iconst 4, 1) := by decide +kernel
theorem dX6_sinkAll_21 : decode cX6_sinkAll 21 = .ok (.invokevirtual 65, 3) := by decide +kernel
theorem dX6_sinkAll_24 : decode cX6_sinkAll 24 = .ok (.ifCond .gt 32, 3) := by decide +kernel
theorem dX6_sinkAll_27 : decode cX6_sinkAll 27 = .ok (.aload_n 1, 1) := by decide +kernel
theorem dX6_sinkAll_28 : decode cX6_sinkAll 28 = .ok (.iload_n 2, 1) := by decide +kernel
theorem dX6_sinkAll_29 : decode cX6_sinkAll 29 = .ok (.iconst 4, 1) := by decide +kernel
theorem dX6_sinkAll_30 : decode cX6_sinkAll 30 = .ok (.iconst 0, 1) := by decide +kernel
theorem dX6_sinkAll_31 : decode cX6_sinkAll 31 = .ok (.invokevirtual 92, 3) := by decide +kernel
theorem dX6_sinkAll_34 : decode cX6_sinkAll 34 = .ok (.aload_n 1, 1) := by decide +kernel
theorem dX6_sinkAll_35 : decode cX6_sinkAll 35 = .ok (.iload_n 2, 1) := by decide +kernel
theorem dX6_sinkAll_36 : decode cX6_sinkAll 36 = .ok (.bipush 10, 2) := by decide +kernel
theorem dX6_sinkAll_38 : decode cX6_sinkAll 38 = .ok (.aload_n 1, 1) := by decide +kernel
theorem dX6_sinkAll_39 : decode cX6_sinkAll 39 = .ok (.getfield 146, 3) := by decide +kernel
theorem dX6_sinkAll_42 : decode cX6_sinkAll 42 = .ok (.invokevirtual 92, 3) := by decide +kernel
theorem dX6_sinkAll_45 : decode cX6_sinkAll 45 = .ok (.aload_n 1, 1) := by decide +kernel
theorem dX6_sinkAll_46 : decode cX6_sinkAll 46 = .ok (.iload_n 2, 1) := by decide +kernel
theorem dX6_sinkAll_47 : decode cX6_sinkAll 47 = .ok (.invokevirtual 149, 3) := by decide +kernel
theorem dX6_sinkAll_50 : decode cX6_sinkAll 50 = .ok (.aload_n 0, 1) := by decide +kernel
theorem dX6_sinkAll_51 : decode cX6_sinkAll 51 = .ok (.aload_n 1, 1) := by decide +kernel
theorem dX6_sinkAll_52 : decode cX6_sinkAll 52 = .ok (.iload_n 2, 1) := by decide +kernel
theorem dX6_sinkAll_53 : decode cX6_sinkAll 53 = .ok (.invokevirtual 153, 3) := by decide +kernel
theorem dX6_sinkAll_56 : decode cX6_sinkAll 56 = .ok (.iinc 2 1, 3) := by decide +kernel
theorem dX6_sinkAll_59 : decode cX6_sinkAll 59 = .ok (.goto (-57), 3) := by decide +kernel
theorem dX6_sinkAll_62 : decode cX6_sinkAll 62 = .ok (.return_, 1) := by decide +kernel
theorem dX6_givePoints_0 : decode cX6_givePoints 0 = .ok (.iconst 0, 1) := by decide +kernel
theorem dX6_givePoints_1 : decode cX6_givePoints 1 = .ok (.istore_n 3, 1) := by decide +kernel
theorem dX6_givePoints_2 : decode cX6_givePoints 2 = .ok (.iload_n 3, 1) := by decide +kernel
theorem dX6_givePoints_3 : decode cX6_givePoints 3 = .ok (.aload_n 1, 1) := by decide +kernel
theorem dX6_givePoints_4 : decode cX6_givePoints 4 = .ok (.getfield 156, 3) := by decide +kernel
theorem dX6_givePoints_7 : decode cX6_givePoints 7 = .ok (.if_icmp .ge 59, 3) := by decide +kernel
theorem dX6_givePoints_10 : decode cX6_givePoints 10 = .ok (.aload_n 0, 1) := by decide +kernel
theorem dX6_givePoints_11 : decode cX6_givePoints 11 = .ok (.getfield 22, 3) := by decide +kernel
theorem dX6_givePoints_14 : decode cX6_givePoints 14 = .ok (.iload_n 2, 1) := by decide +kernel
theorem dX6_givePoints_15 : decode cX6_givePoints 15 = .ok (.iaload, 1) := by decide +kernel
theorem dX6_givePoints_16 : decode cX6_givePoints 16 = .ok (.iload_n 3, 1) := by decide +kernel
theorem dX6_givePoints_17 : decode cX6_givePoints 17 = .ok (.ishr, 1) := by decide +kernel
theorem dX6_givePoints_18 : decode cX6_givePoints 18 = .ok (.iconst 1, 1) := by decide +kernel
theorem dX6_givePoints_19 : decode cX6_givePoints 19 = .ok (.iand, 1) := by decide +kernel
theorem dX6_givePoints_20 : decode cX6_givePoints 20 = .ok (.ifCond .eq 7, 3) := by decide +kernel
theorem dX6_givePoints_23 : decode cX6_givePoints 23 = .ok (.iconst 1, 1) := by decide +kernel
theorem dX6_givePoints_24 : decode cX6_givePoints 24 = .ok (.goto 4, 3) := by decide +kernel
theorem dX6_givePoints_27 : decode cX6_givePoints 27 = .ok (.iconst 0, 1) := by decide +kernel
theorem dX6_givePoints_28 : decode cX6_givePoints 28 = .ok (.istore 4, 2) := by decide +kernel
theorem dX6_givePoints_30 : decode cX6_givePoints 30 = .ok (.iload 4, 2) := by decide +kernel
theorem dX6_givePoints_32 : decode cX6_givePoints 32 = .ok (.ifCond .eq 28, 3) := by decide +kernel
theorem dX6_givePoints_35 : decode cX6_givePoints 35 = .ok (.iload_n 3, 1) := by decide +kernel
theorem dX6_givePoints_36 : decode cX6_givePoints 36 = .ok (.aload_n 1, 1) := by decide +kernel
theorem dX6_givePoints_37 : decode cX6_givePoints 37 = .ok (.iload_n 2, 1) := by decide +kernel
theorem dX6_givePoints_38 : decode cX6_givePoints 38 = .ok (.iconst 0, 1) := by decide +kernel
theorem dX6_givePoints_39 : decode cX6_givePoints 39 = .ok (.invokevirtual 65, 3) := by decide +kernel
theorem dX6_givePoints_42 : decode cX6_givePoints 42 = .ok (.if_icmp .eq 18, 3) := by decide +kernel
theorem dX6_givePoints_45 : decode cX6_givePoints 45 = .ok (.aload_n 1, 1) := by decide +kernel
theorem dX6_givePoints_46 : decode cX6_givePoints 46 = .ok (.getfield 159, 3) := by decide +kernel
theorem dX6_givePoints_49 : decode cX6_givePoints 49 = .ok (.iload_n 3, 1) := by decide +kernel
theorem dX6_givePoints_50 : decode cX6_givePoints 50 = .ok (.dup2, 1) := by decide +kernel
theorem dX6_givePoints_51 : decode cX6_givePoints 51 = .ok (.iaload, 1) := by decide +kernel
theorem dX6_givePoints_52 : decode cX6_givePoints 52 = .ok (.aload_n 1, 1) := by decide +kernel
theorem dX6_givePoints_53 : decode cX6_givePoints 53 = .ok (.iload_n 2, 1) := by decide +kernel
theorem dX6_givePoints_54 : decode cX6_givePoints 54 = .ok (.iconst 5, 1) := by decide +kernel
theorem dX6_givePoints_55 : decode cX6_givePoints 55 = .ok (.invokevirtual 65, 3) := by decide +kernel
theorem dX6_givePoints_58 : decode cX6_givePoints 58 = .ok (.iadd, 1) := by decide +kernel
theorem dX6_givePoints_59 : decode cX6_givePoints 59 = .ok (.iastore, 1) := by decide +kernel
theorem dX6_givePoints_60 : decode cX6_givePoints 60 = .ok (.iinc 3 1, 3) := by decide +kernel
theorem dX6_givePoints_63 : decode cX6_givePoints 63 = .ok (.goto (-61), 3) := by decide +kernel
theorem dX6_givePoints_66 : decode cX6_givePoints 66 = .ok (.return_, 1) := by decide +kernel
theorem dX7_init_0 : decode cX7_init 0 = .ok (.aload_n 0, 1) := by decide +kernel
theorem dX7_init_1 : decode cX7_init 1 = .ok (.invokespecial 3, 3) := by decide +kernel
theorem dX7_init_4 : decode cX7_init 4 = .ok (.aload_n 0, 1) := by decide +kernel
theorem dX7_init_5 : decode cX7_init 5 = .ok (.sipush 240, 3) := by decide +kernel
theorem dX7_init_8 : decode cX7_init 8 = .ok (.newarray .int, 2) := by decide +kernel
theorem dX7_init_10 : decode cX7_init 10 = .ok (.putfield 9, 3) := by decide +kernel
theorem dX7_init_13 : decode cX7_init 13 = .ok (.return_, 1) := by decide +kernel
theorem dX7_addShip_0 : decode cX7_addShip 0 = .ok (.aload_n 0, 1) := by decide +kernel
theorem dX7_addShip_1 : decode cX7_addShip 1 = .ok (.getfield 15, 3) := by decide +kernel
theorem dX7_addShip_4 : decode cX7_addShip 4 = .ok (.ifCond .le 9, 3) := by decide +kernel
theorem dX7_addShip_7 : decode cX7_addShip 7 = .ok (.aload_n 0, 1) := by decide +kernel
theorem dX7_addShip_8 : decode cX7_addShip 8 = .ok (.bipush 32, 2) := by decide +kernel
theorem dX7_addShip_10 : decode cX7_addShip 10 = .ok (.invokevirtual 19, 3) := by decide +kernel
theorem dX7_addShip_13 : decode cX7_addShip 13 = .ok (.aload_n 0, 1) := by decide +kernel
theorem dX7_addShip_14 : decode cX7_addShip 14 = .ok (.aload_n 1, 1) := by decide +kernel
theorem dX7_addShip_15 : decode cX7_addShip 15 = .ok (.getfield 23, 3) := by decide +kernel
theorem dX7_addShip_18 : decode cX7_addShip 18 = .ok (.iload_n 2, 1) := by decide +kernel
theorem dX7_addShip_19 : decode cX7_addShip 19 = .ok (.laload, 1) := by decide +kernel
theorem dX7_addShip_20 : decode cX7_addShip 20 = .ok (.invokevirtual 29, 3) := by decide +kernel
theorem dX7_addShip_23 : decode cX7_addShip 23 = .ok (.aload_n 0, 1) := by decide +kernel
theorem dX7_addShip_24 : decode cX7_addShip 24 = .ok (.bipush 61, 2) := by decide +kernel
theorem dX7_addShip_26 : decode cX7_addShip 26 = .ok (.invokevirtual 19, 3) := by decide +kernel
theorem dX7_addShip_29 : decode cX7_addShip 29 = .ok (.aload_n 0, 1) := by decide +kernel
theorem dX7_addShip_30 : decode cX7_addShip 30 = .ok (.aload_n 1, 1) := by decide +kernel
theorem dX7_addShip_31 : decode cX7_addShip 31 = .ok (.iload_n 2, 1) := by decide +kernel
theorem dX7_addShip_32 : decode cX7_addShip 32 = .ok (.iconst 1, 1) := by decide +kernel
theorem dX7_addShip_33 : decode cX7_addShip 33 = .ok (.invokevirtual 33, 3) := by decide +kernel
theorem dX7_addShip_36 : decode cX7_addShip 36 = .ok (.invokevirtual 37, 3) := by decide +kernel
theorem dX7_addShip_39 : decode cX7_addShip 39 = .ok (.aload_n 0, 1) := by decide +kernel
theorem dX7_addShip_40 : decode cX7_addShip 40 = .ok (.bipush 44, 2) := by decide +kernel
theorem dX7_addShip_42 : decode cX7_addShip 42 = .ok (.invokevirtual 19, 3) := by decide +kernel
theorem dX7_addShip_45 : decode cX7_addShip 45 = .ok (.aload_n 0, 1) := by decide +kernel
theorem dX7_addShip_46 : decode cX7_addShip 46 = .ok (.aload_n 1, 1) := by decide +kernel
theorem dX7_addShip_47 : decode cX7_addShip 47 = .ok (.iload_n 2, 1) := by decide +kernel
theorem dX7_addShip_48 : decode cX7_addShip 48 = .ok (.iconst 2, 1) := by decide +kernel
theorem dX7_addShip_49 : decode cX7_addShip 49 = .ok (.invokevirtual 33, 3) := by decide +kernel
theorem dX7_addShip_52 : decode cX7_addShip 52 = .ok (.invokevirtual 37, 3) := by decide +kernel
theorem dX7_addShip_55 : decode cX7_addShip 55 = .ok (.aload_n 0, 1) := by decide +kernel
theorem dX7_addShip_56 : decode cX7_addShip 56 = .ok (.aload_n 1, 1) := by decide +kernel
theorem dX7_addShip_57 : decode cX7_addShip 57 = .ok (.iload_n 2, 1) := by decide +kernel
theorem dX7_addShip_58 : decode cX7_addShip 58 = .ok (.iconst 3, 1) := by decide +kernel
theorem dX7_addShip_59 : decode cX7_addShip 59 = .ok (.invokevirtual 33, 3) := by decide +kernel
theorem dX7_addShip_62 : decode cX7_addShip 62 = .ok (.invokevirtual 40, 3) := by decide +kernel
theorem dX7_addShip_65 : decode cX7_addShip 65 = .ok (.aload_n 0, 1) := by decide +kernel
theorem dX7_addShip_66 : decode cX7_addShip 66 = .ok (.bipush 47, 2) := by decide +kernel
theorem dX7_addShip_68 : decode cX7_addShip 68 = .ok (.invokevirtual 19, 3) := by decide +kernel
theorem dX7_addShip_71 : decode cX7_addShip 71 = .ok (.aload_n 0, 1) := by decide +kernel
theorem dX7_addShip_72 : decode cX7_addShip 72 = .ok (.aload_n 1, 1) := by decide +kernel
theorem dX7_addShip_73 : decode cX7_addShip 73 = .ok (.iload_n 2, 1) := by decide +kernel
theorem dX7_addShip_74 : decode cX7_addShip 74 = .ok (.iconst 4, 1) := by decide +kernel
theorem dX7_addShip_75 : decode cX7_addShip 75 = .ok (.invokevirtual 33, 3) := by decide +kernel
theorem dX7_addShip_78 : decode cX7_addShip 78 = .ok (.invokevirtual 37, 3) := by decide +kernel
theorem dX7_addShip_81 : decode cX7_addShip 81 = .ok (.return_, 1) := by decide +kernel
theorem dX7_addByte_0 : decode cX7_addByte 0 = .ok (.aload_n 0, 1) := by decide +kernel
theorem dX7_addByte_1 : decode cX7_addByte 1 = .ok (.getfield 15, 3) := by decide +kernel
theorem dX7_addByte_4 : decode cX7_addByte 4 = .ok (.aload_n 0, 1) := by decide +kernel
theorem dX7_addByte_5 : decode cX7_addByte 5 = .ok (.getfield 9, 3) := by decide +kernel
theorem dX7_addByte_8 : decode cX7_addByte 8 = .ok (.arraylength, 1) := by decide +kernel
theorem dX7_addByte_9 : decode cX7_addByte 9 = .ok (.if_icmp .ge 23, 3) := by decide +kernel
theorem dX7_addByte_12 : decode cX7_addByte 12 = .ok (.aload_n 0, 1) := by decide +kernel
theorem dX7_addByte_13 : decode cX7_addByte 13 = .ok (.getfield 9, 3) := by decide +kernel
theorem dX7_addByte_16 : decode cX7_addByte 16 = .ok (.aload_n 0, 1) := by decide +kernel
theorem dX7_addByte_17 : decode cX7_addByte 17 = .ok (.getfield 15, 3) := by decide +kernel
theorem dX7_addByte_20 : decode cX7_addByte 20 = .ok (.iload_n 1, 1) := by decide +kernel
theorem dX7_addByte_21 : decode cX7_addByte 21 = .ok (.iastore, 1) := by decide +kernel
theorem dX7_addByte_22 : decode cX7_addByte 22 = .ok (.aload_n 0, 1) := by decide +kernel
theorem dX7_addByte_23 : decode cX7_addByte 23 = .ok (.dup, 1) := by decide +kernel
theorem dX7_addByte_24 : decode cX7_addByte 24 = .ok (.getfield 15, 3) := by decide +kernel
theorem dX7_addByte_27 : decode cX7_addByte 27 = .ok (.iconst 1, 1) := by decide +kernel
theorem dX7_addByte_28 : decode cX7_addByte 28 = .ok (.iadd, 1) := by decide +kernel
theorem dX7_addByte_29 : decode cX7_addByte 29 = .ok (.putfield 15, 3) := by decide +kernel
theorem dX7_addByte_32 : decode cX7_addByte 32 = .ok (.return_, 1) := by decide +kernel
theorem dX7_addName_0 : decode cX7_addName 0 = .ok (.bipush 7, 2) := by decide +kernel
theorem dX7_addName_2 : decode cX7_addName 2 = .ok (.istore_n 3, 1) := by decide +kernel
theorem dX7_addName_3 : decode cX7_addName 3 = .ok (.iload_n 3, 1) := by decide +kernel
theorem dX7_addName_4 : decode cX7_addName 4 = .ok (.ifCond .lt 36, 3) := by decide +kernel
theorem dX7_addName_7 : decode cX7_addName 7 = .ok (.lload_n 1, 1) := by decide +kernel
theorem dX7_addName_8 : decode cX7_addName 8 = .ok (.iconst 5, 1) := by decide +kernel
theorem dX7_addName_9 : decode cX7_addName 9 = .ok (.iload_n 3, 1) := by decide +kernel
theorem dX7_addName_10 : decode cX7_addName 10 = .ok (.imul, 1) := by decide +kernel
theorem dX7_addName_11 : decode cX7_addName 11 = .ok (.lshr, 1) := by decide +kernel
theorem dX7_addName_12 : decode cX7_addName 12 = .ok (.l2i, 1) := by decide +kernel
theorem dX7_addName_13 : decode cX7_addName 13 = .ok (.bipush 31, 2) := by decide +kernel
theorem dX7_addName_15 : decode cX7_addName 15 = .ok (.iand, 1) := by decide +kernel
theorem dX7_addName_16 : decode cX7_addName 16 = .ok (.istore 4, 2) := by decide +kernel
theorem dX7_addName_18 : decode cX7_addName 18 = .ok (.iload 4, 2) := by decide +kernel
theorem dX7_addName_20 : decode cX7_addName 20 = .ok (.ifCond .eq 14, 3) := by decide +kernel
theorem dX7_addName_23 : decode cX7_addName 23 = .ok (.aload_n 0, 1) := by decide +kernel
theorem dX7_addName_24 : decode cX7_addName 24 = .ok (.bipush 97, 2) := by decide +kernel
theorem dX7_addName_26 : decode cX7_addName 26 = .ok (.iload 4, 2) := by decide +kernel
theorem dX7_addName_28 : decode cX7_addName 28 = .ok (.iadd, 1) := by decide +kernel
theorem dX7_addName_29 : decode cX7_addName 29 = .ok (.iconst 1, 1) := by decide +kernel
theorem dX7_addName_30 : decode cX7_addName 30 = .ok (.isub, 1) := by decide +kernel
theorem dX7_addName_31 : decode cX7_addName 31 = .ok (.invokevirtual 19, 3) := by decide +kernel
theorem dX7_addName_34 : decode cX7_addName 34 = .ok (.iinc 3 (-1), 3) := by decide +kernel
theorem dX7_addName_37 : decode cX7_addName 37 = .ok (.goto (-34), 3) := by decide +kernel
theorem dX7_addName_40 : decode cX7_addName 40 = .ok (.return_, 1) := by decide +kernel
theorem dX7_addNumber_0 : decode cX7_addNumber 0 = .ok (.iload_n 1, 1) := by decide +kernel
theorem dX7_addNumber_1 : decode cX7_addNumber 1 = .ok (.bipush 10, 2) := by decide +kernel
theorem dX7_addNumber_3 : decode cX7_addNumber 3 = .ok (.if_icmp .lt 14, 3) := by decide +kernel
theorem dX7_addNumber_6 : decode cX7_addNumber 6 = .ok (.aload_n 0, 1) := by decide +kernel
theorem dX7_addNumber_7 : decode cX7_addNumber 7 = .ok (.bipush 48, 2) := by decide +kernel
theorem dX7_addNumber_9 : decode cX7_addNumber 9 = .ok (.iload_n 1, 1) := by decide +kernel
theorem dX7_addNumber_10 : decode cX7_addNumber 10 = .ok (.bipush 10, 2) := by decide +kernel
theorem dX7_addNumber_12 : decode cX7_addNumber 12 = .ok (.idiv, 1) := by decide +kernel
theorem dX7_addNumber_13 : decode cX7_addNumber 13 = .ok (.iadd, 1) := by decide +kernel
theorem dX7_addNumber_14 : decode cX7_addNumber 14 = .ok (.invokevirtual 19, 3) := by decide +kernel
theorem dX7_addNumber_17 : decode cX7_addNumber 17 = .ok (.aload_n 0, 1) := by decide +kernel
theorem dX7_addNumber_18 : decode cX7_addNumber 18 = .ok (.bipush 48, 2) := by decide +kernel
theorem dX7_addNumber_20 : decode cX7_addNumber 20 = .ok (.iload_n 1, 1) := by decide +kernel
theorem dX7_addNumber_21 : decode cX7_addNumber 21 = .ok (.bipush 10, 2) := by decide +kernel
theorem dX7_addNumber_23 : decode cX7_addNumber 23 = .ok (.irem, 1) := by decide +kernel
theorem dX7_addNumber_24 : decode cX7_addNumber 24 = .ok (.iadd, 1) := by decide +kernel
theorem dX7_addNumber_25 : decode cX7_addNumber 25 = .ok (.invokevirtual 19, 3) := by decide +kernel
theorem dX7_addNumber_28 : decode cX7_addNumber 28 = .ok (.return_, 1) := by decide +kernel
theorem dX7_addHeading_0 : decode cX7_addHeading 0 = .ok (.iload_n 1, 1) := by decide +kernel
theorem dX7_addHeading_1 : decode cX7_addHeading 1 = .ok (.bipush 7, 2) := by decide +kernel
theorem dX7_addHeading_3 : decode cX7_addHeading 3 = .ok (.if_icmp .eq 8, 3) := by decide +kernel
theorem dX7_addHeading_6 : decode cX7_addHeading 6 = .ok (.iload_n 1, 1) := by decide +kernel
theorem dX7_addHeading_7 : decode cX7_addHeading 7 = .ok (.iconst 1, 1) := by decide +kernel
theorem dX7_addHeading_8 : decode cX7_addHeading 8 = .ok (.if_icmp .gt 7, 3) := by decide +kernel
theorem dX7_addHeading_11 : decode cX7_addHeading 11 = .ok (.iconst 1, 1) := by decide +kernel
theorem dX7_addHeading_12 : decode cX7_addHeading 12 = .ok (.goto 4, 3) := by decide +kernel
theorem dX7_addHeading_15 : decode cX7_addHeading 15 = .ok (.iconst 0, 1) := by decide +kernel
theorem dX7_addHeading_16 : decode cX7_addHeading 16 = .ok (.istore_n 2, 1) := by decide +kernel
theorem dX7_addHeading_17 : decode cX7_addHeading 17 = .ok (.iload_n 1, 1) := by decide +kernel
theorem dX7_addHeading_18 : decode cX7_addHeading 18 = .ok (.iconst 3, 1) := by decide +kernel
theorem dX7_addHeading_19 : decode cX7_addHeading 19 = .ok (.if_icmp .lt 12, 3) := by decide +kernel
theorem dX7_addHeading_22 : decode cX7_addHeading 22 = .ok (.iload_n 1, 1) := by decide +kernel
theorem dX7_addHeading_23 : decode cX7_addHeading 23 = .ok (.iconst 5, 1) := by decide +kernel
theorem dX7_addHeading_24 : decode cX7_addHeading 24 = .ok (.if_icmp .gt 7, 3) := by decide +kernel
theorem dX7_addHeading_27 : decode cX7_addHeading 27 = .ok (.iconst 1, 1) := by decide +kernel
theorem dX7_addHeading_28 : decode cX7_addHeading 28 = .ok (.goto 4, 3) := by decide +kernel
theorem dX7_addHeading_31 : decode cX7_addHeading 31 = .ok (.iconst 0, 1) := by decide +kernel
theorem dX7_addHeading_32 : decode cX7_addHeading 32 = .ok (.istore_n 3, 1) := by decide +kernel
theorem dX7_addHeading_33 : decode cX7_addHeading 33 = .ok (.iload_n 2, 1) := by decide +kernel
theorem dX7_addHeading_34 : decode cX7_addHeading 34 = .ok (.ifCond .ne 7, 3) := by decide +kernel
theorem dX7_addHeading_37 : decode cX7_addHeading 37 = .ok (.iload_n 3, 1) := by decide +kernel
theorem dX7_addHeading_38 : decode cX7_addHeading 38 = .ok (.ifCond .eq 18, 3) := by decide +kernel
theorem dX7_addHeading_41 : decode cX7_addHeading 41 = .ok (.aload_n 0, 1) := by decide +kernel
theorem dX7_addHeading_42 : decode cX7_addHeading 42 = .ok (.iload_n 2, 1) := by decide +kernel
theorem dX7_addHeading_43 : decode cX7_addHeading 43 = .ok (.ifCond .eq 8, 3) := by decide +kernel
theorem dX7_addHeading_46 : decode cX7_addHeading 46 = .ok (.bipush 78, 2) := by decide +kernel
theorem dX7_addHeading_48 : decode cX7_addHeading 48 = .ok (.goto 5, 3) := by decide +kernel
theorem dX7_addHeading_51 : decode cX7_addHeading 51 = .ok (.bipush 83, 2) := by decide +kernel
theorem dX7_addHeading_53 : decode cX7_addHeading 53 = .ok (.invokevirtual 19, 3) := by decide +kernel
theorem dX7_addHeading_56 : decode cX7_addHeading 56 = .ok (.iload_n 1, 1) := by decide +kernel
theorem dX7_addHeading_57 : decode cX7_addHeading 57 = .ok (.iconst 4, 1) := by decide +kernel
theorem dX7_addHeading_58 : decode cX7_addHeading 58 = .ok (.irem, 1) := by decide +kernel
theorem dX7_addHeading_59 : decode cX7_addHeading 59 = .ok (.ifCond .eq 19, 3) := by decide +kernel
theorem dX7_addHeading_62 : decode cX7_addHeading 62 = .ok (.aload_n 0, 1) := by decide +kernel
theorem dX7_addHeading_63 : decode cX7_addHeading 63 = .ok (.iload_n 1, 1) := by decide +kernel
theorem dX7_addHeading_64 : decode cX7_addHeading 64 = .ok (.iconst 4, 1) := by decide +kernel
theorem dX7_addHeading_65 : decode cX7_addHeading 65 = .ok (.if_icmp .ge 8, 3) := by decide +kernel
theorem dX7_addHeading_68 : decode cX7_addHeading 68 = .ok (.bipush 69, 2) := by decide +kernel
theorem dX7_addHeading_70 : decode cX7_addHeading 70 = .ok (.goto 5, 3) := by decide +kernel
theorem dX7_addHeading_73 : decode cX7_addHeading 73 = .ok (.bipush 87, 2) := by decide +kernel
theorem dX7_addHeading_75 : decode cX7_addHeading 75 = .ok (.invokevirtual 19, 3) := by decide +kernel
theorem dX7_addHeading_78 : decode cX7_addHeading 78 = .ok (.return_, 1) := by decide +kernel
theorem dX8_init_0 : decode cX8_init 0 = .ok (.aload_n 0, 1) := by decide +kernel
theorem dX8_init_1 : decode cX8_init 1 = .ok (.invokespecial 1, 3) := by decide +kernel
theorem dX8_init_4 : decode cX8_init 4 = .ok (.aload_n 0, 1) := by decide +kernel
theorem dX8_init_5 : decode cX8_init 5 = .ok (.new 7, 3) := by decide +kernel
theorem dX8_init_8 : decode cX8_init 8 = .ok (.dup, 1) := by decide +kernel
theorem dX8_init_9 : decode cX8_init 9 = .ok (.invokespecial 9, 3) := by decide +kernel
theorem dX8_init_12 : decode cX8_init 12 = .ok (.putfield 10, 3) := by decide +kernel
theorem dX8_init_15 : decode cX8_init 15 = .ok (.aload_n 0, 1) := by decide +kernel
theorem dX8_init_16 : decode cX8_init 16 = .ok (.aload_n 0, 1) := by decide +kernel
theorem dX8_init_17 : decode cX8_init 17 = .ok (.getfield 10, 3) := by decide +kernel
theorem dX8_init_20 : decode cX8_init 20 = .ok (.getfield 16, 3) := by decide +kernel
theorem dX8_init_23 : decode cX8_init 23 = .ok (.putfield 20, 3) := by decide +kernel
theorem dX8_init_26 : decode cX8_init 26 = .ok (.aload_n 0, 1) := by decide +kernel
theorem dX8_init_27 : decode cX8_init 27 = .ok (.new 21, 3) := by decide +kernel
theorem dX8_init_30 : decode cX8_init 30 = .ok (.dup, 1) := by decide +kernel
theorem dX8_init_31 : decode cX8_init 31 = .ok (.invokespecial 23, 3) := by decide +kernel
theorem dX8_init_34 : decode cX8_init 34 = .ok (.putfield 24, 3) := by decide +kernel
theorem dX8_init_37 : decode cX8_init 37 = .ok (.aload_n 0, 1) := by decide +kernel
theorem dX8_init_38 : decode cX8_init 38 = .ok (.new 21, 3) := by decide +kernel
theorem dX8_init_41 : decode cX8_init 41 = .ok (.dup, 1) := by decide +kernel
theorem dX8_init_42 : decode cX8_init 42 = .ok (.invokespecial 23, 3) := by decide +kernel
theorem dX8_init_45 : decode cX8_init 45 = .ok (.putfield 28, 3) := by decide +kernel
theorem dX8_init_48 : decode cX8_init 48 = .ok (.aload_n 0, 1) := by decide +kernel
theorem dX8_init_49 : decode cX8_init 49 = .ok (.new 31, 3) := by decide +kernel
theorem dX8_init_52 : decode cX8_init 52 = .ok (.dup, 1) := by decide +kernel
theorem dX8_init_53 : decode cX8_init 53 = .ok (.invokespecial 33, 3) := by decide +kernel
theorem dX8_init_56 : decode cX8_init 56 = .ok (.putfield 34, 3) := by decide +kernel
theorem dX8_init_59 : decode cX8_init 59 = .ok (.aload_n 0, 1) := by decide +kernel
theorem dX8_init_60 : decode cX8_init 60 = .ok (.new 38, 3) := by decide +kernel
theorem dX8_init_63 : decode cX8_init 63 = .ok (.dup, 1) := by decide +kernel
theorem dX8_init_64 : decode cX8_init 64 = .ok (.invokespecial 40, 3) := by decide +kernel
theorem dX8_init_67 : decode cX8_init 67 = .ok (.putfield 41, 3) := by decide +kernel
theorem dX8_init_70 : decode cX8_init 70 = .ok (.aload_n 0, 1) := by decide +kernel
theorem dX8_init_71 : decode cX8_init 71 = .ok (.new 45, 3) := by decide +kernel
theorem dX8_init_74 : decode cX8_init 74 = .ok (.dup, 1) := by decide +kernel
theorem dX8_init_75 : decode cX8_init 75 = .ok (.iconst 2, 1) := by decide +kernel
theorem dX8_init_76 : decode cX8_init 76 = .ok (.invokespecial 47, 3) := by decide +kernel
theorem dX8_init_79 : decode cX8_init 79 = .ok (.putfield 50, 3) := by decide +kernel
theorem dX8_init_82 : decode cX8_init 82 = .ok (.aload_n 0, 1) := by decide +kernel
theorem dX8_init_83 : decode cX8_init 83 = .ok (.iconst 2, 1) := by decide +kernel
theorem dX8_init_84 : decode cX8_init 84 = .ok (.newarray .boolean, 2) := by decide +kernel
theorem dX8_init_86 : decode cX8_init 86 = .ok (.putfield 54, 3) := by decide +kernel
theorem dX8_init_89 : decode cX8_init 89 = .ok (.aload_n 0, 1) := by decide +kernel
theorem dX8_init_90 : decode cX8_init 90 = .ok (.new 58, 3) := by decide +kernel
theorem dX8_init_93 : decode cX8_init 93 = .ok (.dup, 1) := by decide +kernel
theorem dX8_init_94 : decode cX8_init 94 = .ok (.invokespecial 60, 3) := by decide +kernel
theorem dX8_init_97 : decode cX8_init 97 = .ok (.putfield 61, 3) := by decide +kernel
theorem dX8_init_100 : decode cX8_init 100 = .ok (.aload_n 0, 1) := by decide +kernel
theorem dX8_init_101 : decode cX8_init 101 = .ok (.getfield 24, 3) := by decide +kernel
theorem dX8_init_104 : decode cX8_init 104 = .ok (.invokevirtual 65, 3) := by decide +kernel
theorem dX8_init_107 : decode cX8_init 107 = .ok (.aload_n 0, 1) := by decide +kernel
theorem dX8_init_108 : decode cX8_init 108 = .ok (.getfield 24, 3) := by decide +kernel
theorem dX8_init_111 : decode cX8_init 111 = .ok (.bipush 10, 2) := by decide +kernel
theorem dX8_init_113 : decode cX8_init 113 = .ok (.putfield 68, 3) := by decide +kernel
theorem dX8_init_116 : decode cX8_init 116 = .ok (.aload_n 0, 1) := by decide +kernel
theorem dX8_init_117 : decode cX8_init 117 = .ok (.getfield 24, 3) := by decide +kernel
theorem dX8_init_120 : decode cX8_init 120 = .ok (.bipush 10, 2) := by decide +kernel
theorem dX8_init_122 : decode cX8_init 122 = .ok (.putfield 72, 3) := by decide +kernel
theorem dX8_init_125 : decode cX8_init 125 = .ok (.aload_n 0, 1) := by decide +kernel
theorem dX8_init_126 : decode cX8_init 126 = .ok (.getfield 24, 3) := by decide +kernel
theorem dX8_init_129 : decode cX8_init 129 = .ok (.iconst 1, 1) := by decide +kernel
theorem dX8_init_130 : decode cX8_init 130 = .ok (.putfield 75, 3) := by decide +kernel
theorem dX8_init_133 : decode cX8_init 133 = .ok (.return_, 1) := by decide +kernel
theorem dX8_append_0 : decode cX8_append 0 = .ok (.iload_n 1, 1) := by decide +kernel
theorem dX8_append_1 : decode cX8_append 1 = .ok (.invokestatic 78, 3) := by decide +kernel
theorem dX8_append_4 : decode cX8_append 4 = .ok (.iload_n 2, 1) := by decide +kernel
theorem dX8_append_5 : decode cX8_append 5 = .ok (.invokestatic 78, 3) := by decide +kernel
theorem dX8_append_8 : decode cX8_append 8 = .ok (.iadd, 1) := by decide +kernel
theorem dX8_append_9 : decode cX8_append 9 = .ok (.iload_n 3, 1) := by decide +kernel
theorem dX8_append_10 : decode cX8_append 10 = .ok (.invokestatic 78, 3) := by decide +kernel
theorem dX8_append_13 : decode cX8_append 13 = .ok (.iadd, 1) := by decide +kernel
theorem dX8_append_14 : decode cX8_append 14 = .ok (.iload 4, 2) := by decide +kernel
theorem dX8_append_16 : decode cX8_append 16 = .ok (.invokestatic 78, 3) := by decide +kernel
theorem dX8_append_19 : decode cX8_append 19 = .ok (.iadd, 1) := by decide +kernel
theorem dX8_append_20 : decode cX8_append 20 = .ok (.iload 5, 2) := by decide +kernel
theorem dX8_append_22 : decode cX8_append 22 = .ok (.invokestatic 78, 3) := by decide +kernel
theorem dX8_append_25 : decode cX8_append 25 = .ok (.iadd, 1) := by decide +kernel
theorem dX8_append_26 : decode cX8_append 26 = .ok (.istore 6, 2) := by decide +kernel
theorem dX8_append_28 : decode cX8_append 28 = .ok (.aload_n 0, 1) := by decide +kernel
theorem dX8_append_29 : decode cX8_append 29 = .ok (.getfield 20, 3) := by decide +kernel
theorem dX8_append_32 : decode cX8_append 32 = .ok (.getfield 82, 3) := by decide +kernel
theorem dX8_append_35 : decode cX8_append 35 = .ok (.iload 6, 2) := by decide +kernel
theorem dX8_append_37 : decode cX8_append 37 = .ok (.iadd, 1) := by decide +kernel
theorem dX8_append_38 : decode cX8_append 38 = .ok (.sipush 600, 3) := by decide +kernel
theorem dX8_append_41 : decode cX8_append 41 = .ok (.if_icmp .le 13, 3) := by decide +kernel
theorem dX8_append_44 : decode cX8_append 44 = .ok (.new 87, 3) := by decide +kernel
theorem dX8_append_47 : decode cX8_append 47 = .ok (.dup, 1) := by decide +kernel
theorem dX8_append_48 : decode cX8_append 48 = .ok (.ldc 89, 2) := by decide +kernel
theorem dX8_append_50 : decode cX8_append 50 = .ok (.invokespecial 91, 3) := by decide +kernel
theorem dX8_append_53 : decode cX8_append 53 = .ok (.athrow, 1) := by decide +kernel
theorem dX8_append_54 : decode cX8_append 54 = .ok (.aload_n 0, 1) := by decide +kernel
theorem dX8_append_55 : decode cX8_append 55 = .ok (.getfield 20, 3) := by decide +kernel
theorem dX8_append_58 : decode cX8_append 58 = .ok (.iload_n 1, 1) := by decide +kernel
theorem dX8_append_59 : decode cX8_append 59 = .ok (.invokevirtual 94, 3) := by decide +kernel
theorem dX8_append_62 : decode cX8_append 62 = .ok (.aload_n 0, 1) := by decide +kernel
theorem dX8_append_63 : decode cX8_append 63 = .ok (.getfield 20, 3) := by decide +kernel
theorem dX8_append_66 : decode cX8_append 66 = .ok (.iload_n 2, 1) := by decide +kernel
theorem dX8_append_67 : decode cX8_append 67 = .ok (.invokevirtual 94, 3) := by decide +kernel
theorem dX8_append_70 : decode cX8_append 70 = .ok (.aload_n 0, 1) := by decide +kernel
theorem dX8_append_71 : decode cX8_append 71 = .ok (.getfield 20, 3) := by decide +kernel
theorem dX8_append_74 : decode cX8_append 74 = .ok (.iload_n 3, 1) := by decide +kernel
theorem dX8_append_75 : decode cX8_append 75 = .ok (.invokevirtual 94, 3) := by decide +kernel
theorem dX8_append_78 : decode cX8_append 78 = .ok (.aload_n 0, 1) := by decide +kernel
theorem dX8_append_79 : decode cX8_append 79 = .ok (.getfield 20, 3) := by decide +kernel
theorem dX8_append_82 : decode cX8_append 82 = .ok (.iload 4, 2) := by decide +kernel
theorem dX8_append_84 : decode cX8_append 84 = .ok (.invokevirtual 94, 3) := by decide +kernel
theorem dX8_append_87 : decode cX8_append 87 = .ok (.aload_n 0, 1) := by decide +kernel
theorem dX8_append_88 : decode cX8_append 88 = .ok (.getfield 20, 3) := by decide +kernel
theorem dX8_append_91 : decode cX8_append 91 = .ok (.iload 5, 2) := by decide +kernel
theorem dX8_append_93 : decode cX8_append 93 = .ok (.invokevirtual 94, 3) := by decide +kernel
theorem dX8_append_96 : decode cX8_append 96 = .ok (.aload_n 0, 1) := by decide +kernel
theorem dX8_append_97 : decode cX8_append 97 = .ok (.getfield 20, 3) := by decide +kernel
theorem dX8_append_100 : decode cX8_append 100 = .ok (.getfield 82, 3) := by decide +kernel
theorem dX8_append_103 : decode cX8_append 103 = .ok (.ireturn, 1) := by decide +kernel
theorem dX8_load_0 : decode cX8_load 0 = .ok (.aload_n 0, 1) := by decide +kernel
theorem dX8_load_1 : decode cX8_load 1 = .ok (.getfield 10, 3) := by decide +kernel
theorem dX8_load_4 : decode cX8_load 4 = .ok (.aload_n 0, 1) := by decide +kernel
theorem dX8_load_5 : decode cX8_load 5 = .ok (.getfield 28, 3) := by decide +kernel
theorem dX8_load_8 : decode cX8_load 8 = .ok (.invokevirtual 97, 3) := by decide +kernel
theorem dX8_load_11 : decode cX8_load 11 = .ok (.istore_n 1, 1) := by decide +kernel
theorem dX8_load_12 : decode cX8_load 12 = .ok (.aload_n 0, 1) := by decide +kernel
theorem dX8_load_13 : decode cX8_load 13 = .ok (.getfield 20, 3) := by decide +kernel
theorem dX8_load_16 : decode cX8_load 16 = .ok (.iconst 0, 1) := by decide +kernel
theorem dX8_load_17 : decode cX8_load 17 = .ok (.putfield 82, 3) := by decide +kernel
theorem dX8_load_20 : decode cX8_load 20 = .ok (.iload_n 1, 1) := by decide +kernel
theorem dX8_load_21 : decode cX8_load 21 = .ok (.ifCond .ne 11, 3) := by decide +kernel
theorem dX8_load_24 : decode cX8_load 24 = .ok (.aload_n 0, 1) := by decide +kernel
theorem dX8_load_25 : decode cX8_load 25 = .ok (.getfield 20, 3) := by decide +kernel
theorem dX8_load_28 : decode cX8_load 28 = .ok (.getfield 101, 3) := by decide +kernel
theorem dX8_load_31 : decode cX8_load 31 = .ok (.ireturn, 1) := by decide +kernel
theorem dX8_load_32 : decode cX8_load 32 = .ok (.aload_n 0, 1) := by decide +kernel
theorem dX8_load_33 : decode cX8_load 33 = .ok (.getfield 41, 3) := by decide +kernel
theorem dX8_load_36 : decode cX8_load 36 = .ok (.aload_n 0, 1) := by decide +kernel
theorem dX8_load_37 : decode cX8_load 37 = .ok (.getfield 24, 3) := by decide +kernel
theorem dX8_load_40 : decode cX8_load 40 = .ok (.invokevirtual 104, 3) := by decide +kernel
theorem dX8_load_43 : decode cX8_load 43 = .ok (.aload_n 0, 1) := by decide +kernel
theorem dX8_load_44 : decode cX8_load 44 = .ok (.getfield 24, 3) := by decide +kernel
theorem dX8_load_47 : decode cX8_load 47 = .ok (.aload_n 0, 1) := by decide +kernel
theorem dX8_load_48 : decode cX8_load 48 = .ok (.getfield 28, 3) := by decide +kernel
theorem dX8_load_51 : decode cX8_load 51 = .ok (.invokevirtual 108, 3) := by decide +kernel
theorem dX8_load_54 : decode cX8_load 54 = .ok (.aload_n 0, 1) := by decide +kernel
theorem dX8_load_55 : decode cX8_load 55 = .ok (.getfield 24, 3) := by decide +kernel
theorem dX8_load_58 : decode cX8_load 58 = .ok (.getfield 111, 3) := by decide +kernel
theorem dX8_load_61 : decode cX8_load 61 = .ok (.ireturn, 1) := by decide +kernel
theorem dX8_errorPosition_0 : decode cX8_errorPosition 0 = .ok (.aload_n 0, 1) := by decide +kernel
theorem dX8_errorPosition_1 : decode cX8_errorPosition 1 = .ok (.getfield 20, 3) := by decide +kernel
theorem dX8_errorPosition_4 : decode cX8_errorPosition 4 = .ok (.getfield 114, 3) := by decide +kernel
theorem dX8_errorPosition_7 : decode cX8_errorPosition 7 = .ok (.ireturn, 1) := by decide +kernel
theorem dX8_count_0 : decode cX8_count 0 = .ok (.iload_n 1, 1) := by decide +kernel
theorem dX8_count_1 : decode cX8_count 1 = .ok (.tableswitch 152 0 10 #[59, 67, 75, 83, 91, 99, 107, 115, 123, 136, 144], 59) := by decide +kernel
theorem dX8_count_60 : decode cX8_count 60 = .ok (.aload_n 0, 1) := by decide +kernel
theorem dX8_count_61 : decode cX8_count 61 = .ok (.getfield 24, 3) := by decide +kernel
theorem dX8_count_64 : decode cX8_count 64 = .ok (.getfield 68, 3) := by decide +kernel
theorem dX8_count_67 : decode cX8_count 67 = .ok (.ireturn, 1) := by decide +kernel
theorem dX8_count_68 : decode cX8_count 68 = .ok (.aload_n 0, 1) := by decide +kernel
theorem dX8_count_69 : decode cX8_count 69 = .ok (.getfield 24, 3) := by decide +kernel
theorem dX8_count_72 : decode cX8_count 72 = .ok (.getfield 72, 3) := by decide +kernel
theorem dX8_count_75 : decode cX8_count 75 = .ok (.ireturn, 1) := by decide +kernel
theorem dX8_count_76 : decode cX8_count 76 = .ok (.aload_n 0, 1) := by decide +kernel
theorem dX8_count_77 : decode cX8_count 77 = .ok (.getfield 24, 3) := by decide +kernel
theorem dX8_count_80 : decode cX8_count 80 = .ok (.getfield 75, 3) := by decide +kernel
theorem dX8_count_83 : decode cX8_count 83 = .ok (.ireturn, 1) := by decide +kernel
theorem dX8_count_84 : decode cX8_count 84 = .ok (.aload_n 0, 1) := by decide +kernel
theorem dX8_count_85 : decode cX8_count 85 = .ok (.getfield 24, 3) := by decide +kernel
theorem dX8_count_88 : decode cX8_count 88 = .ok (.getfield 111, 3) := by decide +kernel
theorem dX8_count_91 : decode cX8_count 91 = .ok (.ireturn, 1) := by decide +kernel
theorem dX8_count_92 : decode cX8_count 92 = .ok (.aload_n 0, 1) := by decide +kernel
theorem dX8_count_93 : decode cX8_count 93 = .ok (.getfield 24, 3) := by decide +kernel
theorem dX8_count_96 : decode cX8_count 96 = .ok (.getfield 117, 3) := by decide +kernel
theorem dX8_count_99 : decode cX8_count 99 = .ok (.ireturn, 1) := by decide +kernel
theorem dX8_count_100 : decode cX8_count 100 = .ok (.aload_n 0, 1) := by decide +kernel
theorem dX8_count_101 : decode cX8_count 101 = .ok (.getfield 24, 3) := by decide +kernel
theorem dX8_count_104 : decode cX8_count 104 = .ok (.getfield 120, 3) := by decide +kernel
theorem dX8_count_107 : decode cX8_count 107 = .ok (.ireturn, 1) := by decide +kernel
theorem dX8_count_108 : decode cX8_count 108 = .ok (.aload_n 0, 1) := by decide +kernel
theorem dX8_count_109 : decode cX8_count 109 = .ok (.getfield 24, 3) := by decide +kernel
theorem dX8_count_112 : decode cX8_count 112 = .ok (.getfield 123, 3) := by decide +kernel
theorem dX8_count_115 : decode cX8_count 115 = .ok (.ireturn, 1) := by decide +kernel
theorem dX8_count_116 : decode cX8_count 116 = .ok (.aload_n 0, 1) := by decide +kernel
theorem dX8_count_117 : decode cX8_count 117 = .ok (.getfield 24, 3) := by decide +kernel
theorem dX8_count_120 : decode cX8_count 120 = .ok (.getfield 126, 3) := by decide +kernel
theorem dX8_count_123 : decode cX8_count 123 = .ok (.ireturn, 1) := by decide +kernel
theorem dX8_count_124 : decode cX8_count 124 = .ok (.aload_n 0, 1) := by decide +kernel
theorem dX8_count_125 : decode cX8_count 125 = .ok (.getfield 24, 3) := by decide +kernel
theorem dX8_count_128 : decode cX8_count 128 = .ok (.getfield 117, 3) := by decide +kernel
theorem dX8_count_131 : decode cX8_count 131 = .ok (.bipush 10, 2) := by decide +kernel
theorem dX8_count_133 : decode cX8_count 133 = .ok (.invokestatic 129, 3) := by decide +kernel
theorem dX8_count_136 : decode cX8_count 136 = .ok (.ireturn, 1) := by decide +kernel
theorem dX8_count_137 : decode cX8_count 137 = .ok (.aload_n 0, 1) := by decide +kernel
theorem dX8_count_138 : decode cX8_count 138 = .ok (.getfield 24, 3) := by decide +kernel
theorem dX8_count_141 : decode cX8_count 141 = .ok (.invokevirtual 135, 3) := by decide +kernel
theorem dX8_count_144 : decode cX8_count 144 = .ok (.ireturn, 1) := by decide +kernel
theorem dX8_count_145 : decode cX8_count 145 = .ok (.aload_n 0, 1) := by decide +kernel
theorem dX8_count_146 : decode cX8_count 146 = .ok (.getfield 24, 3) := by decide +kernel
theorem dX8_count_149 : decode cX8_count 149 = .ok (.invokevirtual 139, 3) := by decide +kernel
theorem dX8_count_152 : decode cX8_count 152 = .ok (.ireturn, 1) := by decide +kernel
theorem dX8_count_153 : decode cX8_count 153 = .ok (.new 142, 3) := by decide +kernel
theorem dX8_count_156 : decode cX8_count 156 = .ok (.dup, 1) := by decide +kernel
theorem dX8_count_157 : decode cX8_count 157 = .ok (.ldc 144, 2) := by decide +kernel
theorem dX8_count_159 : decode cX8_count 159 = .ok (.invokespecial 146, 3) := by decide +kernel
theorem dX8_count_162 : decode cX8_count 162 = .ok (.athrow, 1) := by decide +kernel
theorem dX8_ship_0 : decode cX8_ship 0 = .ok (.aload_n 0, 1) := by decide +kernel
theorem dX8_ship_1 : decode cX8_ship 1 = .ok (.iload_n 1, 1) := by decide +kernel
theorem dX8_ship_2 : decode cX8_ship 2 = .ok (.invokevirtual 147, 3) := by decide +kernel
theorem dX8_ship_5 : decode cX8_ship 5 = .ok (.iload_n 2, 1) := by decide +kernel
theorem dX8_ship_6 : decode cX8_ship 6 = .ok (.invokestatic 150, 3) := by decide +kernel
theorem dX8_ship_9 : decode cX8_ship 9 = .ok (.aload_n 0, 1) := by decide +kernel
theorem dX8_ship_10 : decode cX8_ship 10 = .ok (.getfield 24, 3) := by decide +kernel
theorem dX8_ship_13 : decode cX8_ship 13 = .ok (.iload_n 1, 1) := by decide +kernel
theorem dX8_ship_14 : decode cX8_ship 14 = .ok (.iload_n 2, 1) := by decide +kernel
theorem dX8_ship_15 : decode cX8_ship 15 = .ok (.invokevirtual 153, 3) := by decide +kernel
theorem dX8_ship_18 : decode cX8_ship 18 = .ok (.ireturn, 1) := by decide +kernel
theorem dX8_fleet_0 : decode cX8_fleet 0 = .ok (.aload_n 0, 1) := by decide +kernel
theorem dX8_fleet_1 : decode cX8_fleet 1 = .ok (.iload_n 1, 1) := by decide +kernel
theorem dX8_fleet_2 : decode cX8_fleet 2 = .ok (.invokevirtual 156, 3) := by decide +kernel
theorem dX8_fleet_5 : decode cX8_fleet 5 = .ok (.iload_n 2, 1) := by decide +kernel
theorem dX8_fleet_6 : decode cX8_fleet 6 = .ok (.tableswitch 88 0 4 #[34, 43, 53, 62, 79], 34) := by decide +kernel
theorem dX8_fleet_40 : decode cX8_fleet 40 = .ok (.aload_n 0, 1) := by decide +kernel
theorem dX8_fleet_41 : decode cX8_fleet 41 = .ok (.getfield 24, 3) := by decide +kernel
theorem dX8_fleet_44 : decode cX8_fleet 44 = .ok (.iload_n 1, 1) := by decide +kernel
theorem dX8_fleet_45 : decode cX8_fleet 45 = .ok (.invokevirtual 159, 3) := by decide +kernel
theorem dX8_fleet_48 : decode cX8_fleet 48 = .ok (.ireturn, 1) := by decide +kernel
theorem dX8_fleet_49 : decode cX8_fleet 49 = .ok (.aload_n 0, 1) := by decide +kernel
theorem dX8_fleet_50 : decode cX8_fleet 50 = .ok (.getfield 24, 3) := by decide +kernel
theorem dX8_fleet_53 : decode cX8_fleet 53 = .ok (.getfield 162, 3) := by decide +kernel
theorem dX8_fleet_56 : decode cX8_fleet 56 = .ok (.iload_n 1, 1) := by decide +kernel
theorem dX8_fleet_57 : decode cX8_fleet 57 = .ok (.iaload, 1) := by decide +kernel
theorem dX8_fleet_58 : decode cX8_fleet 58 = .ok (.ireturn, 1) := by decide +kernel
theorem dX8_fleet_59 : decode cX8_fleet 59 = .ok (.aload_n 0, 1) := by decide +kernel
theorem dX8_fleet_60 : decode cX8_fleet 60 = .ok (.getfield 24, 3) := by decide +kernel
theorem dX8_fleet_63 : decode cX8_fleet 63 = .ok (.iload_n 1, 1) := by decide +kernel
theorem dX8_fleet_64 : decode cX8_fleet 64 = .ok (.invokevirtual 166, 3) := by decide +kernel
theorem dX8_fleet_67 : decode cX8_fleet 67 = .ok (.ireturn, 1) := by decide +kernel
theorem dX8_fleet_68 : decode cX8_fleet 68 = .ok (.aload_n 0, 1) := by decide +kernel
theorem dX8_fleet_69 : decode cX8_fleet 69 = .ok (.getfield 24, 3) := by decide +kernel
theorem dX8_fleet_72 : decode cX8_fleet 72 = .ok (.iload_n 1, 1) := by decide +kernel
theorem dX8_fleet_73 : decode cX8_fleet 73 = .ok (.invokevirtual 169, 3) := by decide +kernel
theorem dX8_fleet_76 : decode cX8_fleet 76 = .ok (.ifCond .eq 7, 3) := by decide +kernel
theorem dX8_fleet_79 : decode cX8_fleet 79 = .ok (.iconst 1, 1) := by decide +kernel
theorem dX8_fleet_80 : decode cX8_fleet 80 = .ok (.goto 4, 3) := by decide +kernel
theorem dX8_fleet_83 : decode cX8_fleet 83 = .ok (.iconst 0, 1) := by decide +kernel
theorem dX8_fleet_84 : decode cX8_fleet 84 = .ok (.ireturn, 1) := by decide +kernel
theorem dX8_fleet_85 : decode cX8_fleet 85 = .ok (.aload_n 0, 1) := by decide +kernel
theorem dX8_fleet_86 : decode cX8_fleet 86 = .ok (.getfield 24, 3) := by decide +kernel
theorem dX8_fleet_89 : decode cX8_fleet 89 = .ok (.iload_n 1, 1) := by decide +kernel
theorem dX8_fleet_90 : decode cX8_fleet 90 = .ok (.invokevirtual 173, 3) := by decide +kernel
theorem dX8_fleet_93 : decode cX8_fleet 93 = .ok (.ireturn, 1) := by decide +kernel
theorem dX8_fleet_94 : decode cX8_fleet 94 = .ok (.new 142, 3) := by decide +kernel
theorem dX8_fleet_97 : decode cX8_fleet 97 = .ok (.dup, 1) := by decide +kernel
theorem dX8_fleet_98 : decode cX8_fleet 98 = .ok (.ldc 176, 2) := by decide +kernel
theorem dX8_fleet_100 : decode cX8_fleet 100 = .ok (.invokespecial 146, 3) := by decide +kernel
theorem dX8_fleet_103 : decode cX8_fleet 103 = .ok (.athrow, 1) := by decide +kernel
theorem dX8_at_0 : decode cX8_at 0 = .ok (.aload_n 0, 1) := by decide +kernel
theorem dX8_at_1 : decode cX8_at 1 = .ok (.getfield 24, 3) := by decide +kernel
theorem dX8_at_4 : decode cX8_at 4 = .ok (.iload_n 1, 1) := by decide +kernel
theorem dX8_at_5 : decode cX8_at 5 = .ok (.iload_n 2, 1) := by decide +kernel
theorem dX8_at_6 : decode cX8_at 6 = .ok (.invokevirtual 178, 3) := by decide +kernel
theorem dX8_at_9 : decode cX8_at 9 = .ok (.ifCond .ne 13, 3) := by decide +kernel
theorem dX8_at_12 : decode cX8_at 12 = .ok (.new 182, 3) := by decide +kernel
theorem dX8_at_15 : decode cX8_at 15 = .ok (.dup, 1) := by decide +kernel
theorem dX8_at_16 : decode cX8_at 16 = .ok (.ldc 184, 2) := by decide +kernel
theorem dX8_at_18 : decode cX8_at 18 = .ok (.invokespecial 186, 3) := by decide +kernel
theorem dX8_at_21 : decode cX8_at 21 = .ok (.athrow, 1) := by decide +kernel
theorem dX8_at_22 : decode cX8_at 22 = .ok (.aload_n 0, 1) := by decide +kernel
theorem dX8_at_23 : decode cX8_at 23 = .ok (.getfield 24, 3) := by decide +kernel
theorem dX8_at_26 : decode cX8_at 26 = .ok (.iload_n 1, 1) := by decide +kernel
theorem dX8_at_27 : decode cX8_at 27 = .ok (.iload_n 2, 1) := by decide +kernel
theorem dX8_at_28 : decode cX8_at 28 = .ok (.invokevirtual 187, 3) := by decide +kernel
theorem dX8_at_31 : decode cX8_at 31 = .ok (.ireturn, 1) := by decide +kernel
theorem dX8_order_0 : decode cX8_order 0 = .ok (.aload_n 0, 1) := by decide +kernel
theorem dX8_order_1 : decode cX8_order 1 = .ok (.iload_n 1, 1) := by decide +kernel
theorem dX8_order_2 : decode cX8_order 2 = .ok (.invokevirtual 147, 3) := by decide +kernel
theorem dX8_order_5 : decode cX8_order 5 = .ok (.iload_n 2, 1) := by decide +kernel
theorem dX8_order_6 : decode cX8_order 6 = .ok (.invokestatic 190, 3) := by decide +kernel
theorem dX8_order_9 : decode cX8_order 9 = .ok (.aload_n 0, 1) := by decide +kernel
theorem dX8_order_10 : decode cX8_order 10 = .ok (.getfield 24, 3) := by decide +kernel
theorem dX8_order_13 : decode cX8_order 13 = .ok (.getfield 193, 3) := by decide +kernel
theorem dX8_order_16 : decode cX8_order 16 = .ok (.iload_n 1, 1) := by decide +kernel
theorem dX8_order_17 : decode cX8_order 17 = .ok (.iaload, 1) := by decide +kernel
theorem dX8_order_18 : decode cX8_order 18 = .ok (.iload_n 2, 1) := by decide +kernel
theorem dX8_order_19 : decode cX8_order 19 = .ok (.invokestatic 196, 3) := by decide +kernel
theorem dX8_order_22 : decode cX8_order 22 = .ok (.ireturn, 1) := by decide +kernel
theorem dX8_gain_0 : decode cX8_gain 0 = .ok (.aload_n 0, 1) := by decide +kernel
theorem dX8_gain_1 : decode cX8_gain 1 = .ok (.iload_n 1, 1) := by decide +kernel
theorem dX8_gain_2 : decode cX8_gain 2 = .ok (.invokevirtual 147, 3) := by decide +kernel
theorem dX8_gain_5 : decode cX8_gain 5 = .ok (.iload_n 2, 1) := by decide +kernel
theorem dX8_gain_6 : decode cX8_gain 6 = .ok (.invokestatic 201, 3) := by decide +kernel
theorem dX8_gain_9 : decode cX8_gain 9 = .ok (.ifCond .ne 13, 3) := by decide +kernel
theorem dX8_gain_12 : decode cX8_gain 12 = .ok (.new 142, 3) := by decide +kernel
theorem dX8_gain_15 : decode cX8_gain 15 = .ok (.dup, 1) := by decide +kernel
theorem dX8_gain_16 : decode cX8_gain 16 = .ok (.ldc 204, 2) := by decide +kernel
theorem dX8_gain_18 : decode cX8_gain 18 = .ok (.invokespecial 146, 3) := by decide +kernel
theorem dX8_gain_21 : decode cX8_gain 21 = .ok (.athrow, 1) := by decide +kernel
theorem dX8_gain_22 : decode cX8_gain 22 = .ok (.aload_n 0, 1) := by decide +kernel
theorem dX8_gain_23 : decode cX8_gain 23 = .ok (.getfield 24, 3) := by decide +kernel
theorem dX8_gain_26 : decode cX8_gain 26 = .ok (.iload_n 1, 1) := by decide +kernel
theorem dX8_gain_27 : decode cX8_gain 27 = .ok (.iload_n 2, 1) := by decide +kernel
theorem dX8_gain_28 : decode cX8_gain 28 = .ok (.invokevirtual 206, 3) := by decide +kernel
theorem dX8_gain_31 : decode cX8_gain 31 = .ok (.ireturn, 1) := by decide +kernel
theorem dX8_sees_0 : decode cX8_sees 0 = .ok (.aload_n 0, 1) := by decide +kernel
theorem dX8_sees_1 : decode cX8_sees 1 = .ok (.iload_n 1, 1) := by decide +kernel
theorem dX8_sees_2 : decode cX8_sees 2 = .ok (.invokevirtual 156, 3) := by decide +kernel
theorem dX8_sees_5 : decode cX8_sees 5 = .ok (.aload_n 0, 1) := by decide +kernel
theorem dX8_sees_6 : decode cX8_sees 6 = .ok (.iload_n 2, 1) := by decide +kernel
theorem dX8_sees_7 : decode cX8_sees 7 = .ok (.invokevirtual 147, 3) := by decide +kernel
theorem dX8_sees_10 : decode cX8_sees 10 = .ok (.aload_n 0, 1) := by decide +kernel
theorem dX8_sees_11 : decode cX8_sees 11 = .ok (.getfield 24, 3) := by decide +kernel
theorem dX8_sees_14 : decode cX8_sees 14 = .ok (.iload_n 1, 1) := by decide +kernel
theorem dX8_sees_15 : decode cX8_sees 15 = .ok (.iload_n 2, 1) := by decide +kernel
theorem dX8_sees_16 : decode cX8_sees 16 = .ok (.invokevirtual 209, 3) := by decide +kernel
theorem dX8_sees_19 : decode cX8_sees 19 = .ok (.ireturn, 1) := by decide +kernel
theorem dX8_shift_0 : decode cX8_shift 0 = .ok (.iload_n 1, 1) := by decide +kernel
theorem dX8_shift_1 : decode cX8_shift 1 = .ok (.ifCond .lt 10, 3) := by decide +kernel
theorem dX8_shift_4 : decode cX8_shift 4 = .ok (.iload_n 1, 1) := by decide +kernel
theorem dX8_shift_5 : decode cX8_shift 5 = .ok (.sipush 1000, 3) := by decide +kernel
theorem dX8_shift_8 : decode cX8_shift 8 = .ok (.if_icmp .lt 13, 3) := by decide +kernel
theorem dX8_shift_11 : decode cX8_shift 11 = .ok (.new 142, 3) := by decide +kernel
theorem dX8_shift_14 : decode cX8_shift 14 = .ok (.dup, 1) := by decide +kernel
theorem dX8_shift_15 : decode cX8_shift 15 = .ok (.ldc 212, 2) := by decide +kernel
theorem dX8_shift_17 : decode cX8_shift 17 = .ok (.invokespecial 146, 3) := by decide +kernel
theorem dX8_shift_20 : decode cX8_shift 20 = .ok (.athrow, 1) := by decide +kernel
theorem dX8_shift_21 : decode cX8_shift 21 = .ok (.iload_n 2, 1) := by decide +kernel
theorem dX8_shift_22 : decode cX8_shift 22 = .ok (.ifCond .lt 8, 3) := by decide +kernel
theorem dX8_shift_25 : decode cX8_shift 25 = .ok (.iload_n 2, 1) := by decide +kernel
theorem dX8_shift_26 : decode cX8_shift 26 = .ok (.iconst 1, 1) := by decide +kernel
theorem dX8_shift_27 : decode cX8_shift 27 = .ok (.if_icmp .le 13, 3) := by decide +kernel
theorem dX8_shift_30 : decode cX8_shift 30 = .ok (.new 142, 3) := by decide +kernel
theorem dX8_shift_33 : decode cX8_shift 33 = .ok (.dup, 1) := by decide +kernel
theorem dX8_shift_34 : decode cX8_shift 34 = .ok (.ldc 214, 2) := by decide +kernel
theorem dX8_shift_36 : decode cX8_shift 36 = .ok (.invokespecial 146, 3) := by decide +kernel
theorem dX8_shift_39 : decode cX8_shift 39 = .ok (.athrow, 1) := by decide +kernel
theorem dX8_shift_40 : decode cX8_shift 40 = .ok (.aload_n 0, 1) := by decide +kernel
theorem dX8_shift_41 : decode cX8_shift 41 = .ok (.getfield 24, 3) := by decide +kernel
theorem dX8_shift_44 : decode cX8_shift 44 = .ok (.iload_n 1, 1) := by decide +kernel
theorem dX8_shift_45 : decode cX8_shift 45 = .ok (.invokevirtual 216, 3) := by decide +kernel
theorem dX8_shift_48 : decode cX8_shift 48 = .ok (.istore_n 3, 1) := by decide +kernel
theorem dX8_shift_49 : decode cX8_shift 49 = .ok (.iload_n 3, 1) := by decide +kernel
theorem dX8_shift_50 : decode cX8_shift 50 = .ok (.iconst (-1), 1) := by decide +kernel
theorem dX8_shift_51 : decode cX8_shift 51 = .ok (.if_icmp .ne 7, 3) := by decide +kernel
theorem dX8_shift_54 : decode cX8_shift 54 = .ok (.iconst (-1), 1) := by decide +kernel
theorem dX8_shift_55 : decode cX8_shift 55 = .ok (.goto 14, 3) := by decide +kernel
theorem dX8_shift_58 : decode cX8_shift 58 = .ok (.aload_n 0, 1) := by decide +kernel
theorem dX8_shift_59 : decode cX8_shift 59 = .ok (.getfield 24, 3) := by decide +kernel
theorem dX8_shift_62 : decode cX8_shift 62 = .ok (.iload_n 3, 1) := by decide +kernel
theorem dX8_shift_63 : decode cX8_shift 63 = .ok (.iload_n 2, 1) := by decide +kernel
theorem dX8_shift_64 : decode cX8_shift 64 = .ok (.iconst 1, 1) := by decide +kernel
theorem dX8_shift_65 : decode cX8_shift 65 = .ok (.iadd, 1) := by decide +kernel
theorem dX8_shift_66 : decode cX8_shift 66 = .ok (.invokevirtual 219, 3) := by decide +kernel
theorem dX8_shift_69 : decode cX8_shift 69 = .ok (.ireturn, 1) := by decide +kernel
theorem dX8_ram_0 : decode cX8_ram 0 = .ok (.iload_n 1, 1) := by decide +kernel
theorem dX8_ram_1 : decode cX8_ram 1 = .ok (.ifCond .lt 14, 3) := by decide +kernel
theorem dX8_ram_4 : decode cX8_ram 4 = .ok (.iload_n 1, 1) := by decide +kernel
theorem dX8_ram_5 : decode cX8_ram 5 = .ok (.aload_n 0, 1) := by decide +kernel
theorem dX8_ram_6 : decode cX8_ram 6 = .ok (.getfield 24, 3) := by decide +kernel
theorem dX8_ram_9 : decode cX8_ram 9 = .ok (.getfield 126, 3) := by decide +kernel
theorem dX8_ram_12 : decode cX8_ram 12 = .ok (.if_icmp .lt 13, 3) := by decide +kernel
theorem dX8_ram_15 : decode cX8_ram 15 = .ok (.new 182, 3) := by decide +kernel
theorem dX8_ram_18 : decode cX8_ram 18 = .ok (.dup, 1) := by decide +kernel
theorem dX8_ram_19 : decode cX8_ram 19 = .ok (.ldc 222, 2) := by decide +kernel
theorem dX8_ram_21 : decode cX8_ram 21 = .ok (.invokespecial 186, 3) := by decide +kernel
theorem dX8_ram_24 : decode cX8_ram 24 = .ok (.athrow, 1) := by decide +kernel
theorem dX8_ram_25 : decode cX8_ram 25 = .ok (.iload_n 2, 1) := by decide +kernel
theorem dX8_ram_26 : decode cX8_ram 26 = .ok (.ifCond .lt 8, 3) := by decide +kernel
theorem dX8_ram_29 : decode cX8_ram 29 = .ok (.iload_n 2, 1) := by decide +kernel
theorem dX8_ram_30 : decode cX8_ram 30 = .ok (.iconst 5, 1) := by decide +kernel
theorem dX8_ram_31 : decode cX8_ram 31 = .ok (.if_icmp .lt 13, 3) := by decide +kernel
theorem dX8_ram_34 : decode cX8_ram 34 = .ok (.new 142, 3) := by decide +kernel
theorem dX8_ram_37 : decode cX8_ram 37 = .ok (.dup, 1) := by decide +kernel
theorem dX8_ram_38 : decode cX8_ram 38 = .ok (.ldc 224, 2) := by decide +kernel
theorem dX8_ram_40 : decode cX8_ram 40 = .ok (.invokespecial 146, 3) := by decide +kernel
theorem dX8_ram_43 : decode cX8_ram 43 = .ok (.athrow, 1) := by decide +kernel
theorem dX8_ram_44 : decode cX8_ram 44 = .ok (.aload_n 0, 1) := by decide +kernel
theorem dX8_ram_45 : decode cX8_ram 45 = .ok (.getfield 24, 3) := by decide +kernel
theorem dX8_ram_48 : decode cX8_ram 48 = .ok (.getfield 226, 3) := by decide +kernel
theorem dX8_ram_51 : decode cX8_ram 51 = .ok (.iload_n 1, 1) := by decide +kernel
theorem dX8_ram_52 : decode cX8_ram 52 = .ok (.iconst 5, 1) := by decide +kernel
theorem dX8_ram_53 : decode cX8_ram 53 = .ok (.imul, 1) := by decide +kernel
theorem dX8_ram_54 : decode cX8_ram 54 = .ok (.iload_n 2, 1) := by decide +kernel
theorem dX8_ram_55 : decode cX8_ram 55 = .ok (.iadd, 1) := by decide +kernel
theorem dX8_ram_56 : decode cX8_ram 56 = .ok (.iaload, 1) := by decide +kernel
theorem dX8_ram_57 : decode cX8_ram 57 = .ok (.ireturn, 1) := by decide +kernel
theorem dX8_sealOf_0 : decode cX8_sealOf 0 = .ok (.iload_n 1, 1) := by decide +kernel
theorem dX8_sealOf_1 : decode cX8_sealOf 1 = .ok (.aload_n 0, 1) := by decide +kernel
theorem dX8_sealOf_2 : decode cX8_sealOf 2 = .ok (.getfield 24, 3) := by decide +kernel
theorem dX8_sealOf_5 : decode cX8_sealOf 5 = .ok (.getfield 117, 3) := by decide +kernel
theorem dX8_sealOf_8 : decode cX8_sealOf 8 = .ok (.if_icmp .eq 24, 3) := by decide +kernel
theorem dX8_sealOf_11 : decode cX8_sealOf 11 = .ok (.aload_n 0, 1) := by decide +kernel
theorem dX8_sealOf_12 : decode cX8_sealOf 12 = .ok (.getfield 24, 3) := by decide +kernel
theorem dX8_sealOf_15 : decode cX8_sealOf 15 = .ok (.iload_n 1, 1) := by decide +kernel
theorem dX8_sealOf_16 : decode cX8_sealOf 16 = .ok (.invokevirtual 229, 3) := by decide +kernel
theorem dX8_sealOf_19 : decode cX8_sealOf 19 = .ok (.ifCond .ne 13, 3) := by decide +kernel
theorem dX8_sealOf_22 : decode cX8_sealOf 22 = .ok (.new 182, 3) := by decide +kernel
theorem dX8_sealOf_25 : decode cX8_sealOf 25 = .ok (.dup, 1) := by decide +kernel
theorem dX8_sealOf_26 : decode cX8_sealOf 26 = .ok (.ldc 212, 2) := by decide +kernel
theorem dX8_sealOf_28 : decode cX8_sealOf 28 = .ok (.invokespecial 186, 3) := by decide +kernel
theorem dX8_sealOf_31 : decode cX8_sealOf 31 = .ok (.athrow, 1) := by decide +kernel
theorem dX8_sealOf_32 : decode cX8_sealOf 32 = .ok (.aload_n 0, 1) := by decide +kernel
theorem dX8_sealOf_33 : decode cX8_sealOf 33 = .ok (.iload_n 2, 1) := by decide +kernel
theorem dX8_sealOf_34 : decode cX8_sealOf 34 = .ok (.invokevirtual 156, 3) := by decide +kernel
theorem dX8_sealOf_37 : decode cX8_sealOf 37 = .ok (.aload_n 0, 1) := by decide +kernel
theorem dX8_sealOf_38 : decode cX8_sealOf 38 = .ok (.getfield 24, 3) := by decide +kernel
theorem dX8_sealOf_41 : decode cX8_sealOf 41 = .ok (.iload_n 1, 1) := by decide +kernel
theorem dX8_sealOf_42 : decode cX8_sealOf 42 = .ok (.iload_n 2, 1) := by decide +kernel
theorem dX8_sealOf_43 : decode cX8_sealOf 43 = .ok (.invokevirtual 232, 3) := by decide +kernel
theorem dX8_sealOf_46 : decode cX8_sealOf 46 = .ok (.ireturn, 1) := by decide +kernel
theorem dX8_check_0 : decode cX8_check 0 = .ok (.aload_n 0, 1) := by decide +kernel
theorem dX8_check_1 : decode cX8_check 1 = .ok (.iload_n 1, 1) := by decide +kernel
theorem dX8_check_2 : decode cX8_check 2 = .ok (.invokevirtual 235, 3) := by decide +kernel
theorem dX8_check_5 : decode cX8_check 5 = .ok (.aload_n 0, 1) := by decide +kernel
theorem dX8_check_6 : decode cX8_check 6 = .ok (.iload_n 2, 1) := by decide +kernel
theorem dX8_check_7 : decode cX8_check 7 = .ok (.invokevirtual 156, 3) := by decide +kernel
theorem dX8_check_10 : decode cX8_check 10 = .ok (.iload_n 3, 1) := by decide +kernel
theorem dX8_check_11 : decode cX8_check 11 = .ok (.invokestatic 238, 3) := by decide +kernel
theorem dX8_check_14 : decode cX8_check 14 = .ok (.ifCond .eq 29, 3) := by decide +kernel
theorem dX8_check_17 : decode cX8_check 17 = .ok (.aload_n 0, 1) := by decide +kernel
theorem dX8_check_18 : decode cX8_check 18 = .ok (.getfield 24, 3) := by decide +kernel
theorem dX8_check_21 : decode cX8_check 21 = .ok (.iload_n 1, 1) := by decide +kernel
theorem dX8_check_22 : decode cX8_check 22 = .ok (.iload_n 2, 1) := by decide +kernel
theorem dX8_check_23 : decode cX8_check 23 = .ok (.iload_n 3, 1) := by decide +kernel
theorem dX8_check_24 : decode cX8_check 24 = .ok (.invokevirtual 241, 3) := by decide +kernel
theorem dX8_check_27 : decode cX8_check 27 = .ok (.aload_n 0, 1) := by decide +kernel
theorem dX8_check_28 : decode cX8_check 28 = .ok (.getfield 24, 3) := by decide +kernel
theorem dX8_check_31 : decode cX8_check 31 = .ok (.iload_n 1, 1) := by decide +kernel
theorem dX8_check_32 : decode cX8_check 32 = .ok (.iload_n 2, 1) := by decide +kernel
theorem dX8_check_33 : decode cX8_check 33 = .ok (.invokevirtual 232, 3) := by decide +kernel
theorem dX8_check_36 : decode cX8_check 36 = .ok (.if_icmp .ne 7, 3) := by decide +kernel
theorem dX8_check_39 : decode cX8_check 39 = .ok (.iconst 1, 1) := by decide +kernel
theorem dX8_check_40 : decode cX8_check 40 = .ok (.goto 4, 3) := by decide +kernel
theorem dX8_check_43 : decode cX8_check 43 = .ok (.iconst 0, 1) := by decide +kernel
theorem dX8_check_44 : decode cX8_check 44 = .ok (.ireturn, 1) := by decide +kernel
theorem dX8_logged_0 : decode cX8_logged 0 = .ok (.aload_n 0, 1) := by decide +kernel
theorem dX8_logged_1 : decode cX8_logged 1 = .ok (.iload_n 1, 1) := by decide +kernel
theorem dX8_logged_2 : decode cX8_logged 2 = .ok (.invokevirtual 235, 3) := by decide +kernel
theorem dX8_logged_5 : decode cX8_logged 5 = .ok (.aload_n 0, 1) := by decide +kernel
theorem dX8_logged_6 : decode cX8_logged 6 = .ok (.iload_n 2, 1) := by decide +kernel
theorem dX8_logged_7 : decode cX8_logged 7 = .ok (.invokevirtual 147, 3) := by decide +kernel
theorem dX8_logged_10 : decode cX8_logged 10 = .ok (.iload_n 3, 1) := by decide +kernel
theorem dX8_logged_11 : decode cX8_logged 11 = .ok (.invokestatic 190, 3) := by decide +kernel
theorem dX8_logged_14 : decode cX8_logged 14 = .ok (.aload_n 0, 1) := by decide +kernel
theorem dX8_logged_15 : decode cX8_logged 15 = .ok (.getfield 24, 3) := by decide +kernel
theorem dX8_logged_18 : decode cX8_logged 18 = .ok (.iload_n 1, 1) := by decide +kernel
theorem dX8_logged_19 : decode cX8_logged 19 = .ok (.iload_n 2, 1) := by decide +kernel
theorem dX8_logged_20 : decode cX8_logged 20 = .ok (.invokevirtual 245, 3) := by decide +kernel
theorem dX8_logged_23 : decode cX8_logged 23 = .ok (.iload_n 3, 1) := by decide +kernel
theorem dX8_logged_24 : decode cX8_logged 24 = .ok (.invokestatic 196, 3) := by decide +kernel
theorem dX8_logged_27 : decode cX8_logged 27 = .ok (.ireturn, 1) := by decide +kernel
theorem dX8_after_0 : decode cX8_after 0 = .ok (.aload_n 0, 1) := by decide +kernel
theorem dX8_after_1 : decode cX8_after 1 = .ok (.iload_n 1, 1) := by decide +kernel
theorem dX8_after_2 : decode cX8_after 2 = .ok (.invokevirtual 147, 3) := by decide +kernel
theorem dX8_after_5 : decode cX8_after 5 = .ok (.iload_n 2, 1) := by decide +kernel
theorem dX8_after_6 : decode cX8_after 6 = .ok (.invokestatic 150, 3) := by decide +kernel
theorem dX8_after_9 : decode cX8_after 9 = .ok (.aload_n 0, 1) := by decide +kernel
theorem dX8_after_10 : decode cX8_after 10 = .ok (.invokevirtual 248, 3) := by decide +kernel
theorem dX8_after_13 : decode cX8_after 13 = .ok (.aload_n 0, 1) := by decide +kernel
theorem dX8_after_14 : decode cX8_after 14 = .ok (.getfield 28, 3) := by decide +kernel
theorem dX8_after_17 : decode cX8_after 17 = .ok (.iload_n 1, 1) := by decide +kernel
theorem dX8_after_18 : decode cX8_after 18 = .ok (.iload_n 2, 1) := by decide +kernel
theorem dX8_after_19 : decode cX8_after 19 = .ok (.invokevirtual 153, 3) := by decide +kernel
theorem dX8_after_22 : decode cX8_after 22 = .ok (.ireturn, 1) := by decide +kernel
theorem dX8_course_0 : decode cX8_course 0 = .ok (.aload_n 0, 1) := by decide +kernel
theorem dX8_course_1 : decode cX8_course 1 = .ok (.iload_n 1, 1) := by decide +kernel
theorem dX8_course_2 : decode cX8_course 2 = .ok (.invokevirtual 147, 3) := by decide +kernel
theorem dX8_course_5 : decode cX8_course 5 = .ok (.aload_n 0, 1) := by decide +kernel
theorem dX8_course_6 : decode cX8_course 6 = .ok (.getfield 24, 3) := by decide +kernel
theorem dX8_course_9 : decode cX8_course 9 = .ok (.iload_n 1, 1) := by decide +kernel
theorem dX8_course_10 : decode cX8_course 10 = .ok (.invokevirtual 251, 3) := by decide +kernel
theorem dX8_course_13 : decode cX8_course 13 = .ok (.ifCond .ne 13, 3) := by decide +kernel
theorem dX8_course_16 : decode cX8_course 16 = .ok (.new 182, 3) := by decide +kernel
theorem dX8_course_19 : decode cX8_course 19 = .ok (.dup, 1) := by decide +kernel
theorem dX8_course_20 : decode cX8_course 20 = .ok (.ldc 254, 2) := by decide +kernel
theorem dX8_course_22 : decode cX8_course 22 = .ok (.invokespecial 186, 3) := by decide +kernel
theorem dX8_course_25 : decode cX8_course 25 = .ok (.athrow, 1) := by decide +kernel
theorem dX8_course_26 : decode cX8_course 26 = .ok (.iload_n 2, 1) := by decide +kernel
theorem dX8_course_27 : decode cX8_course 27 = .ok (.ifCond .lt 9, 3) := by decide +kernel
theorem dX8_course_30 : decode cX8_course 30 = .ok (.iload_n 2, 1) := by decide +kernel
theorem dX8_course_31 : decode cX8_course 31 = .ok (.bipush 6, 2) := by decide +kernel
theorem dX8_course_33 : decode cX8_course 33 = .ok (.if_icmp .le 14, 3) := by decide +kernel
theorem dX8_course_36 : decode cX8_course 36 = .ok (.new 142, 3) := by decide +kernel
theorem dX8_course_39 : decode cX8_course 39 = .ok (.dup, 1) := by decide +kernel
theorem dX8_course_40 : decode cX8_course 40 = .ok (.ldc_w 256, 3) := by decide +kernel
theorem dX8_course_43 : decode cX8_course 43 = .ok (.invokespecial 146, 3) := by decide +kernel
theorem dX8_course_46 : decode cX8_course 46 = .ok (.athrow, 1) := by decide +kernel
theorem dX8_course_47 : decode cX8_course 47 = .ok (.aload_n 0, 1) := by decide +kernel
theorem dX8_course_48 : decode cX8_course 48 = .ok (.getfield 28, 3) := by decide +kernel
theorem dX8_course_51 : decode cX8_course 51 = .ok (.aload_n 0, 1) := by decide +kernel
theorem dX8_course_52 : decode cX8_course 52 = .ok (.getfield 24, 3) := by decide +kernel
theorem dX8_course_55 : decode cX8_course 55 = .ok (.invokevirtual 108, 3) := by decide +kernel
theorem dX8_course_58 : decode cX8_course 58 = .ok (.aload_n 0, 1) := by decide +kernel
theorem dX8_course_59 : decode cX8_course 59 = .ok (.getfield 28, 3) := by decide +kernel
theorem dX8_course_62 : decode cX8_course 62 = .ok (.iload_n 1, 1) := by decide +kernel
theorem dX8_course_63 : decode cX8_course 63 = .ok (.invokevirtual 258, 3) := by decide +kernel
theorem dX8_course_66 : decode cX8_course 66 = .ok (.aload_n 0, 1) := by decide +kernel
theorem dX8_course_67 : decode cX8_course 67 = .ok (.getfield 28, 3) := by decide +kernel
theorem dX8_course_70 : decode cX8_course 70 = .ok (.invokevirtual 261, 3) := by decide +kernel
theorem dX8_course_73 : decode cX8_course 73 = .ok (.aload_n 0, 1) := by decide +kernel
theorem dX8_course_74 : decode cX8_course 74 = .ok (.getfield 34, 3) := by decide +kernel
theorem dX8_course_77 : decode cX8_course 77 = .ok (.aload_n 0, 1) := by decide +kernel
theorem dX8_course_78 : decode cX8_course 78 = .ok (.getfield 28, 3) := by decide +kernel
theorem dX8_course_81 : decode cX8_course 81 = .ok (.iload_n 2, 1) := by decide +kernel
theorem dX8_course_82 : decode cX8_course 82 = .ok (.invokevirtual 264, 3) := by decide +kernel
theorem dX8_course_85 : decode cX8_course 85 = .ok (.aload_n 0, 1) := by decide +kernel
theorem dX8_course_86 : decode cX8_course 86 = .ok (.getfield 28, 3) := by decide +kernel
theorem dX8_course_89 : decode cX8_course 89 = .ok (.iload_n 1, 1) := by decide +kernel
theorem dX8_course_90 : decode cX8_course 90 = .ok (.iconst 1, 1) := by decide +kernel
theorem dX8_course_91 : decode cX8_course 91 = .ok (.invokevirtual 153, 3) := by decide +kernel
theorem dX8_course_94 : decode cX8_course 94 = .ok (.aload_n 0, 1) := by decide +kernel
theorem dX8_course_95 : decode cX8_course 95 = .ok (.getfield 28, 3) := by decide +kernel
theorem dX8_course_98 : decode cX8_course 98 = .ok (.iload_n 1, 1) := by decide +kernel
theorem dX8_course_99 : decode cX8_course 99 = .ok (.iconst 2, 1) := by decide +kernel
theorem dX8_course_100 : decode cX8_course 100 = .ok (.invokevirtual 153, 3) := by decide +kernel
theorem dX8_course_103 : decode cX8_course 103 = .ok (.invokestatic 268, 3) := by decide +kernel
theorem dX8_course_106 : decode cX8_course 106 = .ok (.ireturn, 1) := by decide +kernel
theorem dX8_meet_0 : decode cX8_meet 0 = .ok (.aload_n 0, 1) := by decide +kernel
theorem dX8_meet_1 : decode cX8_meet 1 = .ok (.iload_n 1, 1) := by decide +kernel
theorem dX8_meet_2 : decode cX8_meet 2 = .ok (.invokevirtual 147, 3) := by decide +kernel
theorem dX8_meet_5 : decode cX8_meet 5 = .ok (.aload_n 0, 1) := by decide +kernel
theorem dX8_meet_6 : decode cX8_meet 6 = .ok (.iload_n 2, 1) := by decide +kernel
theorem dX8_meet_7 : decode cX8_meet 7 = .ok (.invokevirtual 147, 3) := by decide +kernel
theorem dX8_meet_10 : decode cX8_meet 10 = .ok (.aload_n 0, 1) := by decide +kernel
theorem dX8_meet_11 : decode cX8_meet 11 = .ok (.invokevirtual 248, 3) := by decide +kernel
theorem dX8_meet_14 : decode cX8_meet 14 = .ok (.aload_n 0, 1) := by decide +kernel
theorem dX8_meet_15 : decode cX8_meet 15 = .ok (.getfield 34, 3) := by decide +kernel
theorem dX8_meet_18 : decode cX8_meet 18 = .ok (.getfield 271, 3) := by decide +kernel
theorem dX8_meet_21 : decode cX8_meet 21 = .ok (.iload_n 1, 1) := by decide +kernel
theorem dX8_meet_22 : decode cX8_meet 22 = .ok (.bipush 12, 2) := by decide +kernel
theorem dX8_meet_24 : decode cX8_meet 24 = .ok (.imul, 1) := by decide +kernel
theorem dX8_meet_25 : decode cX8_meet 25 = .ok (.iload_n 2, 1) := by decide +kernel
theorem dX8_meet_26 : decode cX8_meet 26 = .ok (.iadd, 1) := by decide +kernel
theorem dX8_meet_27 : decode cX8_meet 27 = .ok (.iaload, 1) := by decide +kernel
theorem dX8_meet_28 : decode cX8_meet 28 = .ok (.ireturn, 1) := by decide +kernel
theorem dX8_spares_0 : decode cX8_spares 0 = .ok (.aload_n 0, 1) := by decide +kernel
theorem dX8_spares_1 : decode cX8_spares 1 = .ok (.iload_n 1, 1) := by decide +kernel
theorem dX8_spares_2 : decode cX8_spares 2 = .ok (.invokevirtual 147, 3) := by decide +kernel
theorem dX8_spares_5 : decode cX8_spares 5 = .ok (.iload_n 2, 1) := by decide +kernel
theorem dX8_spares_6 : decode cX8_spares 6 = .ok (.invokestatic 190, 3) := by decide +kernel
theorem dX8_spares_9 : decode cX8_spares 9 = .ok (.iconst 1, 1) := by decide +kernel
theorem dX8_spares_10 : decode cX8_spares 10 = .ok (.istore_n 3, 1) := by decide +kernel
theorem dX8_spares_11 : decode cX8_spares 11 = .ok (.iconst (-1), 1) := by decide +kernel
theorem dX8_spares_12 : decode cX8_spares 12 = .ok (.istore 4, 2) := by decide +kernel
theorem dX8_spares_14 : decode cX8_spares 14 = .ok (.iconst 1, 1) := by decide +kernel
theorem dX8_spares_15 : decode cX8_spares 15 = .ok (.istore 5, 2) := by decide +kernel
theorem dX8_spares_17 : decode cX8_spares 17 = .ok (.iload 5, 2) := by decide +kernel
theorem dX8_spares_19 : decode cX8_spares 19 = .ok (.iconst 4, 1) := by decide +kernel
theorem dX8_spares_20 : decode cX8_spares 20 = .ok (.if_icmp .gt 89, 3) := by decide +kernel
theorem dX8_spares_23 : decode cX8_spares 23 = .ok (.aload_n 0, 1) := by decide +kernel
theorem dX8_spares_24 : decode cX8_spares 24 = .ok (.getfield 28, 3) := by decide +kernel
theorem dX8_spares_27 : decode cX8_spares 27 = .ok (.aload_n 0, 1) := by decide +kernel
theorem dX8_spares_28 : decode cX8_spares 28 = .ok (.getfield 24, 3) := by decide +kernel
theorem dX8_spares_31 : decode cX8_spares 31 = .ok (.invokevirtual 108, 3) := by decide +kernel
theorem dX8_spares_34 : decode cX8_spares 34 = .ok (.aload_n 0, 1) := by decide +kernel
theorem dX8_spares_35 : decode cX8_spares 35 = .ok (.getfield 28, 3) := by decide +kernel
theorem dX8_spares_38 : decode cX8_spares 38 = .ok (.getfield 193, 3) := by decide +kernel
theorem dX8_spares_41 : decode cX8_spares 41 = .ok (.iload_n 1, 1) := by decide +kernel
theorem dX8_spares_42 : decode cX8_spares 42 = .ok (.aload_n 0, 1) := by decide +kernel
theorem dX8_spares_43 : decode cX8_spares 43 = .ok (.getfield 28, 3) := by decide +kernel
theorem dX8_spares_46 : decode cX8_spares 46 = .ok (.getfield 193, 3) := by decide +kernel
theorem dX8_spares_49 : decode cX8_spares 49 = .ok (.iload_n 1, 1) := by decide +kernel
theorem dX8_spares_50 : decode cX8_spares 50 = .ok (.iaload, 1) := by decide +kernel
theorem dX8_spares_51 : decode cX8_spares 51 = .ok (.iload_n 2, 1) := by decide +kernel
theorem dX8_spares_52 : decode cX8_spares 52 = .ok (.iload 5, 2) := by decide +kernel
theorem dX8_spares_54 : decode cX8_spares 54 = .ok (.invokestatic 274, 3) := by decide +kernel
theorem dX8_spares_57 : decode cX8_spares 57 = .ok (.iastore, 1) := by decide +kernel
theorem dX8_spares_58 : decode cX8_spares 58 = .ok (.aload_n 0, 1) := by decide +kernel
theorem dX8_spares_59 : decode cX8_spares 59 = .ok (.getfield 28, 3) := by decide +kernel
theorem dX8_spares_62 : decode cX8_spares 62 = .ok (.invokevirtual 261, 3) := by decide +kernel
theorem dX8_spares_65 : decode cX8_spares 65 = .ok (.aload_n 0, 1) := by decide +kernel
theorem dX8_spares_66 : decode cX8_spares 66 = .ok (.getfield 34, 3) := by decide +kernel
theorem dX8_spares_69 : decode cX8_spares 69 = .ok (.aload_n 0, 1) := by decide +kernel
theorem dX8_spares_70 : decode cX8_spares 70 = .ok (.getfield 28, 3) := by decide +kernel
theorem dX8_spares_73 : decode cX8_spares 73 = .ok (.bipush 6, 2) := by decide +kernel
theorem dX8_spares_75 : decode cX8_spares 75 = .ok (.invokevirtual 264, 3) := by decide +kernel
theorem dX8_spares_78 : decode cX8_spares 78 = .ok (.aload_n 0, 1) := by decide +kernel
theorem dX8_spares_79 : decode cX8_spares 79 = .ok (.getfield 28, 3) := by decide +kernel
theorem dX8_spares_82 : decode cX8_spares 82 = .ok (.iload_n 1, 1) := by decide +kernel
theorem dX8_spares_83 : decode cX8_spares 83 = .ok (.iconst 4, 1) := by decide +kernel
theorem dX8_spares_84 : decode cX8_spares 84 = .ok (.invokevirtual 153, 3) := by decide +kernel
theorem dX8_spares_87 : decode cX8_spares 87 = .ok (.istore 6, 2) := by decide +kernel
theorem dX8_spares_89 : decode cX8_spares 89 = .ok (.iload 6, 2) := by decide +kernel
theorem dX8_spares_91 : decode cX8_spares 91 = .ok (.iload 4, 2) := by decide +kernel
theorem dX8_spares_93 : decode cX8_spares 93 = .ok (.if_icmp .le 10, 3) := by decide +kernel
theorem dX8_spares_96 : decode cX8_spares 96 = .ok (.iload 6, 2) := by decide +kernel
theorem dX8_spares_98 : decode cX8_spares 98 = .ok (.istore 4, 2) := by decide +kernel
theorem dX8_spares_100 : decode cX8_spares 100 = .ok (.iload 5, 2) := by decide +kernel
theorem dX8_spares_102 : decode cX8_spares 102 = .ok (.istore_n 3, 1) := by decide +kernel
theorem dX8_spares_103 : decode cX8_spares 103 = .ok (.iinc 5 1, 3) := by decide +kernel
theorem dX8_spares_106 : decode cX8_spares 106 = .ok (.goto (-89), 3) := by decide +kernel
theorem dX8_spares_109 : decode cX8_spares 109 = .ok (.iload_n 3, 1) := by decide +kernel
theorem dX8_spares_110 : decode cX8_spares 110 = .ok (.ireturn, 1) := by decide +kernel
theorem dX8_bestWind_0 : decode cX8_bestWind 0 = .ok (.aload_n 0, 1) := by decide +kernel
theorem dX8_bestWind_1 : decode cX8_bestWind 1 = .ok (.iload_n 1, 1) := by decide +kernel
theorem dX8_bestWind_2 : decode cX8_bestWind 2 = .ok (.invokevirtual 156, 3) := by decide +kernel
theorem dX8_bestWind_5 : decode cX8_bestWind 5 = .ok (.iconst 0, 1) := by decide +kernel
theorem dX8_bestWind_6 : decode cX8_bestWind 6 = .ok (.istore_n 2, 1) := by decide +kernel
theorem dX8_bestWind_7 : decode cX8_bestWind 7 = .ok (.iconst (-1), 1) := by decide +kernel
theorem dX8_bestWind_8 : decode cX8_bestWind 8 = .ok (.istore_n 3, 1) := by decide +kernel
theorem dX8_bestWind_9 : decode cX8_bestWind 9 = .ok (.iconst 0, 1) := by decide +kernel
theorem dX8_bestWind_10 : decode cX8_bestWind 10 = .ok (.istore 4, 2) := by decide +kernel
theorem dX8_bestWind_12 : decode cX8_bestWind 12 = .ok (.iload 4, 2) := by decide +kernel
theorem dX8_bestWind_14 : decode cX8_bestWind 14 = .ok (.bipush 8, 2) := by decide +kernel
theorem dX8_bestWind_16 : decode cX8_bestWind 16 = .ok (.if_icmp .ge 64, 3) := by decide +kernel
theorem dX8_bestWind_19 : decode cX8_bestWind 19 = .ok (.aload_n 0, 1) := by decide +kernel
theorem dX8_bestWind_20 : decode cX8_bestWind 20 = .ok (.getfield 28, 3) := by decide +kernel
theorem dX8_bestWind_23 : decode cX8_bestWind 23 = .ok (.aload_n 0, 1) := by decide +kernel
theorem dX8_bestWind_24 : decode cX8_bestWind 24 = .ok (.getfield 24, 3) := by decide +kernel
theorem dX8_bestWind_27 : decode cX8_bestWind 27 = .ok (.invokevirtual 108, 3) := by decide +kernel
theorem dX8_bestWind_30 : decode cX8_bestWind 30 = .ok (.aload_n 0, 1) := by decide +kernel
theorem dX8_bestWind_31 : decode cX8_bestWind 31 = .ok (.getfield 28, 3) := by decide +kernel
theorem dX8_bestWind_34 : decode cX8_bestWind 34 = .ok (.iload 4, 2) := by decide +kernel
theorem dX8_bestWind_36 : decode cX8_bestWind 36 = .ok (.putfield 120, 3) := by decide +kernel
theorem dX8_bestWind_39 : decode cX8_bestWind 39 = .ok (.aload_n 0, 1) := by decide +kernel
theorem dX8_bestWind_40 : decode cX8_bestWind 40 = .ok (.getfield 34, 3) := by decide +kernel
theorem dX8_bestWind_43 : decode cX8_bestWind 43 = .ok (.aload_n 0, 1) := by decide +kernel
theorem dX8_bestWind_44 : decode cX8_bestWind 44 = .ok (.getfield 28, 3) := by decide +kernel
theorem dX8_bestWind_47 : decode cX8_bestWind 47 = .ok (.bipush 6, 2) := by decide +kernel
theorem dX8_bestWind_49 : decode cX8_bestWind 49 = .ok (.invokevirtual 264, 3) := by decide +kernel
theorem dX8_bestWind_52 : decode cX8_bestWind 52 = .ok (.aload_n 0, 1) := by decide +kernel
theorem dX8_bestWind_53 : decode cX8_bestWind 53 = .ok (.getfield 28, 3) := by decide +kernel
theorem dX8_bestWind_56 : decode cX8_bestWind 56 = .ok (.iload_n 1, 1) := by decide +kernel
theorem dX8_bestWind_57 : decode cX8_bestWind 57 = .ok (.invokevirtual 166, 3) := by decide +kernel
theorem dX8_bestWind_60 : decode cX8_bestWind 60 = .ok (.istore 5, 2) := by decide +kernel
theorem dX8_bestWind_62 : decode cX8_bestWind 62 = .ok (.iload 5, 2) := by decide +kernel
theorem dX8_bestWind_64 : decode cX8_bestWind 64 = .ok (.iload_n 3, 1) := by decide +kernel
theorem dX8_bestWind_65 : decode cX8_bestWind 65 = .ok (.if_icmp .le 9, 3) := by decide +kernel
theorem dX8_bestWind_68 : decode cX8_bestWind 68 = .ok (.iload 5, 2) := by decide +kernel
theorem dX8_bestWind_70 : decode cX8_bestWind 70 = .ok (.istore_n 3, 1) := by decide +kernel
theorem dX8_bestWind_71 : decode cX8_bestWind 71 = .ok (.iload 4, 2) := by decide +kernel
theorem dX8_bestWind_73 : decode cX8_bestWind 73 = .ok (.istore_n 2, 1) := by decide +kernel
theorem dX8_bestWind_74 : decode cX8_bestWind 74 = .ok (.iinc 4 1, 3) := by decide +kernel
theorem dX8_bestWind_77 : decode cX8_bestWind 77 = .ok (.goto (-65), 3) := by decide +kernel
theorem dX8_bestWind_80 : decode cX8_bestWind 80 = .ok (.iload_n 2, 1) := by decide +kernel
theorem dX8_bestWind_81 : decode cX8_bestWind 81 = .ok (.ireturn, 1) := by decide +kernel
theorem dX8_pace_0 : decode cX8_pace 0 = .ok (.aload_n 0, 1) := by decide +kernel
theorem dX8_pace_1 : decode cX8_pace 1 = .ok (.iload_n 1, 1) := by decide +kernel
theorem dX8_pace_2 : decode cX8_pace 2 = .ok (.invokevirtual 156, 3) := by decide +kernel
theorem dX8_pace_5 : decode cX8_pace 5 = .ok (.aload_n 0, 1) := by decide +kernel
theorem dX8_pace_6 : decode cX8_pace 6 = .ok (.invokevirtual 248, 3) := by decide +kernel
theorem dX8_pace_9 : decode cX8_pace 9 = .ok (.iconst 0, 1) := by decide +kernel
theorem dX8_pace_10 : decode cX8_pace 10 = .ok (.istore_n 2, 1) := by decide +kernel
theorem dX8_pace_11 : decode cX8_pace 11 = .ok (.iconst 0, 1) := by decide +kernel
theorem dX8_pace_12 : decode cX8_pace 12 = .ok (.istore_n 3, 1) := by decide +kernel
theorem dX8_pace_13 : decode cX8_pace 13 = .ok (.iconst 0, 1) := by decide +kernel
theorem dX8_pace_14 : decode cX8_pace 14 = .ok (.istore 4, 2) := by decide +kernel
theorem dX8_pace_16 : decode cX8_pace 16 = .ok (.iload 4, 2) := by decide +kernel
theorem dX8_pace_18 : decode cX8_pace 18 = .ok (.aload_n 0, 1) := by decide +kernel
theorem dX8_pace_19 : decode cX8_pace 19 = .ok (.getfield 24, 3) := by decide +kernel
theorem dX8_pace_22 : decode cX8_pace 22 = .ok (.getfield 111, 3) := by decide +kernel
theorem dX8_pace_25 : decode cX8_pace 25 = .ok (.if_icmp .ge 38, 3) := by decide +kernel
theorem dX8_pace_28 : decode cX8_pace 28 = .ok (.aload_n 0, 1) := by decide +kernel
theorem dX8_pace_29 : decode cX8_pace 29 = .ok (.getfield 24, 3) := by decide +kernel
theorem dX8_pace_32 : decode cX8_pace 32 = .ok (.iload_n 1, 1) := by decide +kernel
theorem dX8_pace_33 : decode cX8_pace 33 = .ok (.iload 4, 2) := by decide +kernel
theorem dX8_pace_35 : decode cX8_pace 35 = .ok (.invokevirtual 277, 3) := by decide +kernel
theorem dX8_pace_38 : decode cX8_pace 38 = .ok (.ifCond .eq 19, 3) := by decide +kernel
theorem dX8_pace_41 : decode cX8_pace 41 = .ok (.iload_n 2, 1) := by decide +kernel
theorem dX8_pace_42 : decode cX8_pace 42 = .ok (.aload_n 0, 1) := by decide +kernel
theorem dX8_pace_43 : decode cX8_pace 43 = .ok (.getfield 34, 3) := by decide +kernel
theorem dX8_pace_46 : decode cX8_pace 46 = .ok (.getfield 280, 3) := by decide +kernel
theorem dX8_pace_49 : decode cX8_pace 49 = .ok (.iload 4, 2) := by decide +kernel
theorem dX8_pace_51 : decode cX8_pace 51 = .ok (.iaload, 1) := by decide +kernel
theorem dX8_pace_52 : decode cX8_pace 52 = .ok (.iadd, 1) := by decide +kernel
theorem dX8_pace_53 : decode cX8_pace 53 = .ok (.istore_n 2, 1) := by decide +kernel
theorem dX8_pace_54 : decode cX8_pace 54 = .ok (.iinc 3 1, 3) := by decide +kernel
theorem dX8_pace_57 : decode cX8_pace 57 = .ok (.iinc 4 1, 3) := by decide +kernel
theorem dX8_pace_60 : decode cX8_pace 60 = .ok (.goto (-44), 3) := by decide +kernel
theorem dX8_pace_63 : decode cX8_pace 63 = .ok (.iload_n 3, 1) := by decide +kernel
theorem dX8_pace_64 : decode cX8_pace 64 = .ok (.ifCond .ne 7, 3) := by decide +kernel
theorem dX8_pace_67 : decode cX8_pace 67 = .ok (.fconst 0, 1) := by decide +kernel
theorem dX8_pace_68 : decode cX8_pace 68 = .ok (.goto 8, 3) := by decide +kernel
theorem dX8_pace_71 : decode cX8_pace 71 = .ok (.iload_n 2, 1) := by decide +kernel
theorem dX8_pace_72 : decode cX8_pace 72 = .ok (.i2f, 1) := by decide +kernel
theorem dX8_pace_73 : decode cX8_pace 73 = .ok (.iload_n 3, 1) := by decide +kernel
theorem dX8_pace_74 : decode cX8_pace 74 = .ok (.i2f, 1) := by decide +kernel
theorem dX8_pace_75 : decode cX8_pace 75 = .ok (.fdiv, 1) := by decide +kernel
theorem dX8_pace_76 : decode cX8_pace 76 = .ok (.freturn, 1) := by decide +kernel
theorem dX8_write_0 : decode cX8_write 0 = .ok (.aload_n 0, 1) := by decide +kernel
theorem dX8_write_1 : decode cX8_write 1 = .ok (.iload_n 1, 1) := by decide +kernel
theorem dX8_write_2 : decode cX8_write 2 = .ok (.invokevirtual 156, 3) := by decide +kernel
theorem dX8_write_5 : decode cX8_write 5 = .ok (.aload_n 0, 1) := by decide +kernel
theorem dX8_write_6 : decode cX8_write 6 = .ok (.getfield 24, 3) := by decide +kernel
theorem dX8_write_9 : decode cX8_write 9 = .ok (.iload_n 1, 1) := by decide +kernel
theorem dX8_write_10 : decode cX8_write 10 = .ok (.invokevirtual 169, 3) := by decide +kernel
theorem dX8_write_13 : decode cX8_write 13 = .ok (.ifCond .eq 14, 3) := by decide +kernel
theorem dX8_write_16 : decode cX8_write 16 = .ok (.new 87, 3) := by decide +kernel
theorem dX8_write_19 : decode cX8_write 19 = .ok (.dup, 1) := by decide +kernel
theorem dX8_write_20 : decode cX8_write 20 = .ok (.ldc_w 283, 3) := by decide +kernel
theorem dX8_write_23 : decode cX8_write 23 = .ok (.invokespecial 91, 3) := by decide +kernel
theorem dX8_write_26 : decode cX8_write 26 = .ok (.athrow, 1) := by decide +kernel
theorem dX8_write_27 : decode cX8_write 27 = .ok (.aload_n 0, 1) := by decide +kernel
theorem dX8_write_28 : decode cX8_write 28 = .ok (.getfield 28, 3) := by decide +kernel
theorem dX8_write_31 : decode cX8_write 31 = .ok (.aload_n 0, 1) := by decide +kernel
theorem dX8_write_32 : decode cX8_write 32 = .ok (.getfield 24, 3) := by decide +kernel
theorem dX8_write_35 : decode cX8_write 35 = .ok (.invokevirtual 108, 3) := by decide +kernel
theorem dX8_write_38 : decode cX8_write 38 = .ok (.aload_n 0, 1) := by decide +kernel
theorem dX8_write_39 : decode cX8_write 39 = .ok (.getfield 10, 3) := by decide +kernel
theorem dX8_write_42 : decode cX8_write 42 = .ok (.aload_n 0, 1) := by decide +kernel
theorem dX8_write_43 : decode cX8_write 43 = .ok (.getfield 28, 3) := by decide +kernel
theorem dX8_write_46 : decode cX8_write 46 = .ok (.iload_n 1, 1) := by decide +kernel
theorem dX8_write_47 : decode cX8_write 47 = .ok (.invokevirtual 285, 3) := by decide +kernel
theorem dX8_write_50 : decode cX8_write 50 = .ok (.istore_n 2, 1) := by decide +kernel
theorem dX8_write_51 : decode cX8_write 51 = .ok (.aload_n 0, 1) := by decide +kernel
theorem dX8_write_52 : decode cX8_write 52 = .ok (.getfield 20, 3) := by decide +kernel
theorem dX8_write_55 : decode cX8_write 55 = .ok (.iconst 0, 1) := by decide +kernel
theorem dX8_write_56 : decode cX8_write 56 = .ok (.putfield 82, 3) := by decide +kernel
theorem dX8_write_59 : decode cX8_write 59 = .ok (.iload_n 2, 1) := by decide +kernel
theorem dX8_write_60 : decode cX8_write 60 = .ok (.ifCond .ne 11, 3) := by decide +kernel
theorem dX8_write_63 : decode cX8_write 63 = .ok (.aload_n 0, 1) := by decide +kernel
theorem dX8_write_64 : decode cX8_write 64 = .ok (.getfield 20, 3) := by decide +kernel
theorem dX8_write_67 : decode cX8_write 67 = .ok (.getfield 101, 3) := by decide +kernel
theorem dX8_write_70 : decode cX8_write 70 = .ok (.ireturn, 1) := by decide +kernel
theorem dX8_write_71 : decode cX8_write 71 = .ok (.aload_n 0, 1) := by decide +kernel
theorem dX8_write_72 : decode cX8_write 72 = .ok (.getfield 41, 3) := by decide +kernel
theorem dX8_write_75 : decode cX8_write 75 = .ok (.aload_n 0, 1) := by decide +kernel
theorem dX8_write_76 : decode cX8_write 76 = .ok (.getfield 24, 3) := by decide +kernel
theorem dX8_write_79 : decode cX8_write 79 = .ok (.invokevirtual 104, 3) := by decide +kernel
theorem dX8_write_82 : decode cX8_write 82 = .ok (.aload_n 0, 1) := by decide +kernel
theorem dX8_write_83 : decode cX8_write 83 = .ok (.getfield 24, 3) := by decide +kernel
theorem dX8_write_86 : decode cX8_write 86 = .ok (.aload_n 0, 1) := by decide +kernel
theorem dX8_write_87 : decode cX8_write 87 = .ok (.getfield 28, 3) := by decide +kernel
theorem dX8_write_90 : decode cX8_write 90 = .ok (.invokevirtual 108, 3) := by decide +kernel
theorem dX8_write_93 : decode cX8_write 93 = .ok (.aload_n 0, 1) := by decide +kernel
theorem dX8_write_94 : decode cX8_write 94 = .ok (.getfield 10, 3) := by decide +kernel
theorem dX8_write_97 : decode cX8_write 97 = .ok (.getfield 289, 3) := by decide +kernel
theorem dX8_write_100 : decode cX8_write 100 = .ok (.ireturn, 1) := by decide +kernel
theorem dX8_seal_0 : decode cX8_seal 0 = .ok (.aload_n 0, 1) := by decide +kernel
theorem dX8_seal_1 : decode cX8_seal 1 = .ok (.iload_n 1, 1) := by decide +kernel
theorem dX8_seal_2 : decode cX8_seal 2 = .ok (.invokevirtual 156, 3) := by decide +kernel
theorem dX8_seal_5 : decode cX8_seal 5 = .ok (.iload_n 2, 1) := by decide +kernel
theorem dX8_seal_6 : decode cX8_seal 6 = .ok (.invokestatic 238, 3) := by decide +kernel
theorem dX8_seal_9 : decode cX8_seal 9 = .ok (.ifCond .ne 14, 3) := by decide +kernel
theorem dX8_seal_12 : decode cX8_seal 12 = .ok (.new 142, 3) := by decide +kernel
theorem dX8_seal_15 : decode cX8_seal 15 = .ok (.dup, 1) := by decide +kernel
theorem dX8_seal_16 : decode cX8_seal 16 = .ok (.ldc_w 292, 3) := by decide +kernel
theorem dX8_seal_19 : decode cX8_seal 19 = .ok (.invokespecial 146, 3) := by decide +kernel
theorem dX8_seal_22 : decode cX8_seal 22 = .ok (.athrow, 1) := by decide +kernel
theorem dX8_seal_23 : decode cX8_seal 23 = .ok (.aload_n 0, 1) := by decide +kernel
theorem dX8_seal_24 : decode cX8_seal 24 = .ok (.getfield 24, 3) := by decide +kernel
theorem dX8_seal_27 : decode cX8_seal 27 = .ok (.iload_n 1, 1) := by decide +kernel
theorem dX8_seal_28 : decode cX8_seal 28 = .ok (.invokevirtual 169, 3) := by decide +kernel
theorem dX8_seal_31 : decode cX8_seal 31 = .ok (.ifCond .eq 14, 3) := by decide +kernel
theorem dX8_seal_34 : decode cX8_seal 34 = .ok (.new 87, 3) := by decide +kernel
theorem dX8_seal_37 : decode cX8_seal 37 = .ok (.dup, 1) := by decide +kernel
theorem dX8_seal_38 : decode cX8_seal 38 = .ok (.ldc_w 283, 3) := by decide +kernel
theorem dX8_seal_41 : decode cX8_seal 41 = .ok (.invokespecial 91, 3) := by decide +kernel
theorem dX8_seal_44 : decode cX8_seal 44 = .ok (.athrow, 1) := by decide +kernel
theorem dX8_seal_45 : decode cX8_seal 45 = .ok (.aload_n 0, 1) := by decide +kernel
theorem dX8_seal_46 : decode cX8_seal 46 = .ok (.getfield 41, 3) := by decide +kernel
theorem dX8_seal_49 : decode cX8_seal 49 = .ok (.aload_n 0, 1) := by decide +kernel
theorem dX8_seal_50 : decode cX8_seal 50 = .ok (.getfield 24, 3) := by decide +kernel
theorem dX8_seal_53 : decode cX8_seal 53 = .ok (.invokevirtual 104, 3) := by decide +kernel
theorem dX8_seal_56 : decode cX8_seal 56 = .ok (.aload_n 0, 1) := by decide +kernel
theorem dX8_seal_57 : decode cX8_seal 57 = .ok (.getfield 24, 3) := by decide +kernel
theorem dX8_seal_60 : decode cX8_seal 60 = .ok (.getfield 294, 3) := by decide +kernel
theorem dX8_seal_63 : decode cX8_seal 63 = .ok (.iload_n 1, 1) := by decide +kernel
theorem dX8_seal_64 : decode cX8_seal 64 = .ok (.aload_n 0, 1) := by decide +kernel
theorem dX8_seal_65 : decode cX8_seal 65 = .ok (.getfield 24, 3) := by decide +kernel
theorem dX8_seal_68 : decode cX8_seal 68 = .ok (.aload_n 0, 1) := by decide +kernel
theorem dX8_seal_69 : decode cX8_seal 69 = .ok (.getfield 24, 3) := by decide +kernel
theorem dX8_seal_72 : decode cX8_seal 72 = .ok (.getfield 117, 3) := by decide +kernel
theorem dX8_seal_75 : decode cX8_seal 75 = .ok (.iload_n 1, 1) := by decide +kernel
theorem dX8_seal_76 : decode cX8_seal 76 = .ok (.iload_n 2, 1) := by decide +kernel
theorem dX8_seal_77 : decode cX8_seal 77 = .ok (.invokevirtual 241, 3) := by decide +kernel
theorem dX8_seal_80 : decode cX8_seal 80 = .ok (.iastore, 1) := by decide +kernel
theorem dX8_seal_81 : decode cX8_seal 81 = .ok (.aload_n 0, 1) := by decide +kernel
theorem dX8_seal_82 : decode cX8_seal 82 = .ok (.getfield 24, 3) := by decide +kernel
theorem dX8_seal_85 : decode cX8_seal 85 = .ok (.getfield 294, 3) := by decide +kernel
theorem dX8_seal_88 : decode cX8_seal 88 = .ok (.iload_n 1, 1) := by decide +kernel
theorem dX8_seal_89 : decode cX8_seal 89 = .ok (.iaload, 1) := by decide +kernel
theorem dX8_seal_90 : decode cX8_seal 90 = .ok (.ireturn, 1) := by decide +kernel
theorem dX8_run_0 : decode cX8_run 0 = .ok (.aload_n 0, 1) := by decide +kernel
theorem dX8_run_1 : decode cX8_run 1 = .ok (.getfield 24, 3) := by decide +kernel
theorem dX8_run_4 : decode cX8_run 4 = .ok (.invokevirtual 297, 3) := by decide +kernel
theorem dX8_run_7 : decode cX8_run 7 = .ok (.ifCond .ne 14, 3) := by decide +kernel
theorem dX8_run_10 : decode cX8_run 10 = .ok (.new 87, 3) := by decide +kernel
theorem dX8_run_13 : decode cX8_run 13 = .ok (.dup, 1) := by decide +kernel
theorem dX8_run_14 : decode cX8_run 14 = .ok (.ldc_w 301, 3) := by decide +kernel
theorem dX8_run_17 : decode cX8_run 17 = .ok (.invokespecial 91, 3) := by decide +kernel
theorem dX8_run_20 : decode cX8_run 20 = .ok (.athrow, 1) := by decide +kernel
theorem dX8_run_21 : decode cX8_run 21 = .ok (.aload_n 0, 1) := by decide +kernel
theorem dX8_run_22 : decode cX8_run 22 = .ok (.getfield 24, 3) := by decide +kernel
theorem dX8_run_25 : decode cX8_run 25 = .ok (.getfield 117, 3) := by decide +kernel
theorem dX8_run_28 : decode cX8_run 28 = .ok (.sipush 1000, 3) := by decide +kernel
theorem dX8_run_31 : decode cX8_run 31 = .ok (.if_icmp .lt 14, 3) := by decide +kernel
theorem dX8_run_34 : decode cX8_run 34 = .ok (.new 87, 3) := by decide +kernel
theorem dX8_run_37 : decode cX8_run 37 = .ok (.dup, 1) := by decide +kernel
theorem dX8_run_38 : decode cX8_run 38 = .ok (.ldc_w 303, 3) := by decide +kernel
theorem dX8_run_41 : decode cX8_run 41 = .ok (.invokespecial 91, 3) := by decide +kernel
theorem dX8_run_44 : decode cX8_run 44 = .ok (.athrow, 1) := by decide +kernel
theorem dX8_run_45 : decode cX8_run 45 = .ok (.aload_n 0, 1) := by decide +kernel
theorem dX8_run_46 : decode cX8_run 46 = .ok (.getfield 41, 3) := by decide +kernel
theorem dX8_run_49 : decode cX8_run 49 = .ok (.aload_n 0, 1) := by decide +kernel
theorem dX8_run_50 : decode cX8_run 50 = .ok (.getfield 24, 3) := by decide +kernel
theorem dX8_run_53 : decode cX8_run 53 = .ok (.invokevirtual 104, 3) := by decide +kernel
theorem dX8_run_56 : decode cX8_run 56 = .ok (.aload_n 0, 1) := by decide +kernel
theorem dX8_run_57 : decode cX8_run 57 = .ok (.getfield 24, 3) := by decide +kernel
theorem dX8_run_60 : decode cX8_run 60 = .ok (.invokevirtual 305, 3) := by decide +kernel
theorem dX8_run_63 : decode cX8_run 63 = .ok (.aload_n 0, 1) := by decide +kernel
theorem dX8_run_64 : decode cX8_run 64 = .ok (.getfield 24, 3) := by decide +kernel
theorem dX8_run_67 : decode cX8_run 67 = .ok (.invokevirtual 261, 3) := by decide +kernel
theorem dX8_run_70 : decode cX8_run 70 = .ok (.aload_n 0, 1) := by decide +kernel
theorem dX8_run_71 : decode cX8_run 71 = .ok (.getfield 34, 3) := by decide +kernel
theorem dX8_run_74 : decode cX8_run 74 = .ok (.aload_n 0, 1) := by decide +kernel
theorem dX8_run_75 : decode cX8_run 75 = .ok (.getfield 24, 3) := by decide +kernel
theorem dX8_run_78 : decode cX8_run 78 = .ok (.bipush 6, 2) := by decide +kernel
theorem dX8_run_80 : decode cX8_run 80 = .ok (.invokevirtual 264, 3) := by decide +kernel
theorem dX8_run_83 : decode cX8_run 83 = .ok (.aload_n 0, 1) := by decide +kernel
theorem dX8_run_84 : decode cX8_run 84 = .ok (.getfield 24, 3) := by decide +kernel
theorem dX8_run_87 : decode cX8_run 87 = .ok (.dup, 1) := by decide +kernel
theorem dX8_run_88 : decode cX8_run 88 = .ok (.getfield 117, 3) := by decide +kernel
theorem dX8_run_91 : decode cX8_run 91 = .ok (.iconst 1, 1) := by decide +kernel
theorem dX8_run_92 : decode cX8_run 92 = .ok (.iadd, 1) := by decide +kernel
theorem dX8_run_93 : decode cX8_run 93 = .ok (.putfield 117, 3) := by decide +kernel
theorem dX8_run_96 : decode cX8_run 96 = .ok (.aload_n 0, 1) := by decide +kernel
theorem dX8_run_97 : decode cX8_run 97 = .ok (.getfield 24, 3) := by decide +kernel
theorem dX8_run_100 : decode cX8_run 100 = .ok (.invokevirtual 308, 3) := by decide +kernel
theorem dX8_run_103 : decode cX8_run 103 = .ok (.aload_n 0, 1) := by decide +kernel
theorem dX8_run_104 : decode cX8_run 104 = .ok (.getfield 34, 3) := by decide +kernel
theorem dX8_run_107 : decode cX8_run 107 = .ok (.getfield 311, 3) := by decide +kernel
theorem dX8_run_110 : decode cX8_run 110 = .ok (.ireturn, 1) := by decide +kernel
theorem dX8_setWind_0 : decode cX8_setWind 0 = .ok (.iload_n 1, 1) := by decide +kernel
theorem dX8_setWind_1 : decode cX8_setWind 1 = .ok (.invokestatic 201, 3) := by decide +kernel
theorem dX8_setWind_4 : decode cX8_setWind 4 = .ok (.ifCond .ne 14, 3) := by decide +kernel
theorem dX8_setWind_7 : decode cX8_setWind 7 = .ok (.new 142, 3) := by decide +kernel
theorem dX8_setWind_10 : decode cX8_setWind 10 = .ok (.dup, 1) := by decide +kernel
theorem dX8_setWind_11 : decode cX8_setWind 11 = .ok (.ldc_w 312, 3) := by decide +kernel
theorem dX8_setWind_14 : decode cX8_setWind 14 = .ok (.invokespecial 146, 3) := by decide +kernel
theorem dX8_setWind_17 : decode cX8_setWind 17 = .ok (.athrow, 1) := by decide +kernel
theorem dX8_setWind_18 : decode cX8_setWind 18 = .ok (.iload_n 2, 1) := by decide +kernel
theorem dX8_setWind_19 : decode cX8_setWind 19 = .ok (.ifCond .lt 9, 3) := by decide +kernel
theorem dX8_setWind_22 : decode cX8_setWind 22 = .ok (.iload_n 2, 1) := by decide +kernel
theorem dX8_setWind_23 : decode cX8_setWind 23 = .ok (.bipush 9, 2) := by decide +kernel
theorem dX8_setWind_25 : decode cX8_setWind 25 = .ok (.if_icmp .le 14, 3) := by decide +kernel
theorem dX8_setWind_28 : decode cX8_setWind 28 = .ok (.new 142, 3) := by decide +kernel
theorem dX8_setWind_31 : decode cX8_setWind 31 = .ok (.dup, 1) := by decide +kernel
theorem dX8_setWind_32 : decode cX8_setWind 32 = .ok (.ldc_w 314, 3) := by decide +kernel
theorem dX8_setWind_35 : decode cX8_setWind 35 = .ok (.invokespecial 146, 3) := by decide +kernel
theorem dX8_setWind_38 : decode cX8_setWind 38 = .ok (.athrow, 1) := by decide +kernel
theorem dX8_setWind_39 : decode cX8_setWind 39 = .ok (.aload_n 0, 1) := by decide +kernel
theorem dX8_setWind_40 : decode cX8_setWind 40 = .ok (.getfield 41, 3) := by decide +kernel
theorem dX8_setWind_43 : decode cX8_setWind 43 = .ok (.aload_n 0, 1) := by decide +kernel
theorem dX8_setWind_44 : decode cX8_setWind 44 = .ok (.getfield 24, 3) := by decide +kernel
theorem dX8_setWind_47 : decode cX8_setWind 47 = .ok (.invokevirtual 104, 3) := by decide +kernel
theorem dX8_setWind_50 : decode cX8_setWind 50 = .ok (.bipush 10, 2) := by decide +kernel
theorem dX8_setWind_52 : decode cX8_setWind 52 = .ok (.aload_n 0, 1) := by decide +kernel
theorem dX8_setWind_53 : decode cX8_setWind 53 = .ok (.getfield 24, 3) := by decide +kernel
theorem dX8_setWind_56 : decode cX8_setWind 56 = .ok (.getfield 120, 3) := by decide +kernel
theorem dX8_setWind_59 : decode cX8_setWind 59 = .ok (.imul, 1) := by decide +kernel
theorem dX8_setWind_60 : decode cX8_setWind 60 = .ok (.aload_n 0, 1) := by decide +kernel
theorem dX8_setWind_61 : decode cX8_setWind 61 = .ok (.getfield 24, 3) := by decide +kernel
theorem dX8_setWind_64 : decode cX8_setWind 64 = .ok (.getfield 123, 3) := by decide +kernel
theorem dX8_setWind_67 : decode cX8_setWind 67 = .ok (.iadd, 1) := by decide +kernel
theorem dX8_setWind_68 : decode cX8_setWind 68 = .ok (.istore_n 3, 1) := by decide +kernel
theorem dX8_setWind_69 : decode cX8_setWind 69 = .ok (.aload_n 0, 1) := by decide +kernel
theorem dX8_setWind_70 : decode cX8_setWind 70 = .ok (.getfield 24, 3) := by decide +kernel
theorem dX8_setWind_73 : decode cX8_setWind 73 = .ok (.iload_n 1, 1) := by decide +kernel
theorem dX8_setWind_74 : decode cX8_setWind 74 = .ok (.putfield 120, 3) := by decide +kernel
theorem dX8_setWind_77 : decode cX8_setWind 77 = .ok (.aload_n 0, 1) := by decide +kernel
theorem dX8_setWind_78 : decode cX8_setWind 78 = .ok (.getfield 24, 3) := by decide +kernel
theorem dX8_setWind_81 : decode cX8_setWind 81 = .ok (.iload_n 2, 1) := by decide +kernel
theorem dX8_setWind_82 : decode cX8_setWind 82 = .ok (.putfield 123, 3) := by decide +kernel
theorem dX8_setWind_85 : decode cX8_setWind 85 = .ok (.iload_n 3, 1) := by decide +kernel
theorem dX8_setWind_86 : decode cX8_setWind 86 = .ok (.ireturn, 1) := by decide +kernel
theorem dX8_undo_0 : decode cX8_undo 0 = .ok (.aload_n 0, 1) := by decide +kernel
theorem dX8_undo_1 : decode cX8_undo 1 = .ok (.getfield 41, 3) := by decide +kernel
theorem dX8_undo_4 : decode cX8_undo 4 = .ok (.getfield 316, 3) := by decide +kernel
theorem dX8_undo_7 : decode cX8_undo 7 = .ok (.ifCond .ne 14, 3) := by decide +kernel
theorem dX8_undo_10 : decode cX8_undo 10 = .ok (.new 87, 3) := by decide +kernel
theorem dX8_undo_13 : decode cX8_undo 13 = .ok (.dup, 1) := by decide +kernel
theorem dX8_undo_14 : decode cX8_undo 14 = .ok (.ldc_w 319, 3) := by decide +kernel
theorem dX8_undo_17 : decode cX8_undo 17 = .ok (.invokespecial 91, 3) := by decide +kernel
theorem dX8_undo_20 : decode cX8_undo 20 = .ok (.athrow, 1) := by decide +kernel
theorem dX8_undo_21 : decode cX8_undo 21 = .ok (.aload_n 0, 1) := by decide +kernel
theorem dX8_undo_22 : decode cX8_undo 22 = .ok (.getfield 41, 3) := by decide +kernel
theorem dX8_undo_25 : decode cX8_undo 25 = .ok (.aload_n 0, 1) := by decide +kernel
theorem dX8_undo_26 : decode cX8_undo 26 = .ok (.getfield 24, 3) := by decide +kernel
theorem dX8_undo_29 : decode cX8_undo 29 = .ok (.invokevirtual 321, 3) := by decide +kernel
theorem dX8_undo_32 : decode cX8_undo 32 = .ok (.aload_n 0, 1) := by decide +kernel
theorem dX8_undo_33 : decode cX8_undo 33 = .ok (.getfield 41, 3) := by decide +kernel
theorem dX8_undo_36 : decode cX8_undo 36 = .ok (.getfield 316, 3) := by decide +kernel
theorem dX8_undo_39 : decode cX8_undo 39 = .ok (.ireturn, 1) := by decide +kernel
theorem dX8_save_0 : decode cX8_save 0 = .ok (.iload_n 1, 1) := by decide +kernel
theorem dX8_save_1 : decode cX8_save 1 = .ok (.invokestatic 324, 3) := by decide +kernel
theorem dX8_save_4 : decode cX8_save 4 = .ok (.aload_n 0, 1) := by decide +kernel
theorem dX8_save_5 : decode cX8_save 5 = .ok (.getfield 50, 3) := by decide +kernel
theorem dX8_save_8 : decode cX8_save 8 = .ok (.iload_n 1, 1) := by decide +kernel
theorem dX8_save_9 : decode cX8_save 9 = .ok (.aload_n 0, 1) := by decide +kernel
theorem dX8_save_10 : decode cX8_save 10 = .ok (.getfield 24, 3) := by decide +kernel
theorem dX8_save_13 : decode cX8_save 13 = .ok (.invokevirtual 327, 3) := by decide +kernel
theorem dX8_save_16 : decode cX8_save 16 = .ok (.aload_n 0, 1) := by decide +kernel
theorem dX8_save_17 : decode cX8_save 17 = .ok (.getfield 54, 3) := by decide +kernel
theorem dX8_save_20 : decode cX8_save 20 = .ok (.iload_n 1, 1) := by decide +kernel
theorem dX8_save_21 : decode cX8_save 21 = .ok (.iconst 1, 1) := by decide +kernel
theorem dX8_save_22 : decode cX8_save 22 = .ok (.bastore, 1) := by decide +kernel
theorem dX8_save_23 : decode cX8_save 23 = .ok (.return_, 1) := by decide +kernel
theorem dX8_restore_0 : decode cX8_restore 0 = .ok (.iload_n 1, 1) := by decide +kernel
theorem dX8_restore_1 : decode cX8_restore 1 = .ok (.invokestatic 324, 3) := by decide +kernel
theorem dX8_restore_4 : decode cX8_restore 4 = .ok (.aload_n 0, 1) := by decide +kernel
theorem dX8_restore_5 : decode cX8_restore 5 = .ok (.getfield 54, 3) := by decide +kernel
theorem dX8_restore_8 : decode cX8_restore 8 = .ok (.iload_n 1, 1) := by decide +kernel
theorem dX8_restore_9 : decode cX8_restore 9 = .ok (.baload, 1) := by decide +kernel
theorem dX8_restore_10 : decode cX8_restore 10 = .ok (.ifCond .ne 14, 3) := by decide +kernel
theorem dX8_restore_13 : decode cX8_restore 13 = .ok (.new 87, 3) := by decide +kernel
theorem dX8_restore_16 : decode cX8_restore 16 = .ok (.dup, 1) := by decide +kernel
theorem dX8_restore_17 : decode cX8_restore 17 = .ok (.ldc_w 331, 3) := by decide +kernel
theorem dX8_restore_20 : decode cX8_restore 20 = .ok (.invokespecial 91, 3) := by decide +kernel
theorem dX8_restore_23 : decode cX8_restore 23 = .ok (.athrow, 1) := by decide +kernel
theorem dX8_restore_24 : decode cX8_restore 24 = .ok (.aload_n 0, 1) := by decide +kernel
theorem dX8_restore_25 : decode cX8_restore 25 = .ok (.getfield 41, 3) := by decide +kernel
theorem dX8_restore_28 : decode cX8_restore 28 = .ok (.aload_n 0, 1) := by decide +kernel
theorem dX8_restore_29 : decode cX8_restore 29 = .ok (.getfield 24, 3) := by decide +kernel
theorem dX8_restore_32 : decode cX8_restore 32 = .ok (.invokevirtual 104, 3) := by decide +kernel
theorem dX8_restore_35 : decode cX8_restore 35 = .ok (.aload_n 0, 1) := by decide +kernel
theorem dX8_restore_36 : decode cX8_restore 36 = .ok (.getfield 50, 3) := by decide +kernel
theorem dX8_restore_39 : decode cX8_restore 39 = .ok (.iload_n 1, 1) := by decide +kernel
theorem dX8_restore_40 : decode cX8_restore 40 = .ok (.aload_n 0, 1) := by decide +kernel
theorem dX8_restore_41 : decode cX8_restore 41 = .ok (.getfield 24, 3) := by decide +kernel
theorem dX8_restore_44 : decode cX8_restore 44 = .ok (.invokevirtual 333, 3) := by decide +kernel
theorem dX8_restore_47 : decode cX8_restore 47 = .ok (.aload_n 0, 1) := by decide +kernel
theorem dX8_restore_48 : decode cX8_restore 48 = .ok (.getfield 24, 3) := by decide +kernel
theorem dX8_restore_51 : decode cX8_restore 51 = .ok (.getfield 117, 3) := by decide +kernel
theorem dX8_restore_54 : decode cX8_restore 54 = .ok (.ireturn, 1) := by decide +kernel
theorem dX8_writeShips_0 : decode cX8_writeShips 0 = .ok (.aload_n 0, 1) := by decide +kernel
theorem dX8_writeShips_1 : decode cX8_writeShips 1 = .ok (.getfield 61, 3) := by decide +kernel
theorem dX8_writeShips_4 : decode cX8_writeShips 4 = .ok (.iconst 0, 1) := by decide +kernel
theorem dX8_writeShips_5 : decode cX8_writeShips 5 = .ok (.putfield 336, 3) := by decide +kernel
theorem dX8_writeShips_8 : decode cX8_writeShips 8 = .ok (.iconst 0, 1) := by decide +kernel
theorem dX8_writeShips_9 : decode cX8_writeShips 9 = .ok (.istore_n 1, 1) := by decide +kernel
theorem dX8_writeShips_10 : decode cX8_writeShips 10 = .ok (.iload_n 1, 1) := by decide +kernel
theorem dX8_writeShips_11 : decode cX8_writeShips 11 = .ok (.aload_n 0, 1) := by decide +kernel
theorem dX8_writeShips_12 : decode cX8_writeShips 12 = .ok (.getfield 24, 3) := by decide +kernel
theorem dX8_writeShips_15 : decode cX8_writeShips 15 = .ok (.getfield 111, 3) := by decide +kernel
theorem dX8_writeShips_18 : decode cX8_writeShips 18 = .ok (.if_icmp .ge 32, 3) := by decide +kernel
theorem dX8_writeShips_21 : decode cX8_writeShips 21 = .ok (.aload_n 0, 1) := by decide +kernel
theorem dX8_writeShips_22 : decode cX8_writeShips 22 = .ok (.getfield 24, 3) := by decide +kernel
theorem dX8_writeShips_25 : decode cX8_writeShips 25 = .ok (.iload_n 1, 1) := by decide +kernel
theorem dX8_writeShips_26 : decode cX8_writeShips 26 = .ok (.invokevirtual 251, 3) := by decide +kernel
theorem dX8_writeShips_29 : decode cX8_writeShips 29 = .ok (.ifCond .eq 15, 3) := by decide +kernel
theorem dX8_writeShips_32 : decode cX8_writeShips 32 = .ok (.aload_n 0, 1) := by decide +kernel
theorem dX8_writeShips_33 : decode cX8_writeShips 33 = .ok (.getfield 61, 3) := by decide +kernel
theorem dX8_writeShips_36 : decode cX8_writeShips 36 = .ok (.aload_n 0, 1) := by decide +kernel
theorem dX8_writeShips_37 : decode cX8_writeShips 37 = .ok (.getfield 24, 3) := by decide +kernel
theorem dX8_writeShips_40 : decode cX8_writeShips 40 = .ok (.iload_n 1, 1) := by decide +kernel
theorem dX8_writeShips_41 : decode cX8_writeShips 41 = .ok (.invokevirtual 337, 3) := by decide +kernel
theorem dX8_writeShips_44 : decode cX8_writeShips 44 = .ok (.iinc 1 1, 3) := by decide +kernel
theorem dX8_writeShips_47 : decode cX8_writeShips 47 = .ok (.goto (-37), 3) := by decide +kernel
theorem dX8_writeShips_50 : decode cX8_writeShips 50 = .ok (.aload_n 0, 1) := by decide +kernel
theorem dX8_writeShips_51 : decode cX8_writeShips 51 = .ok (.getfield 61, 3) := by decide +kernel
theorem dX8_writeShips_54 : decode cX8_writeShips 54 = .ok (.getfield 336, 3) := by decide +kernel
theorem dX8_writeShips_57 : decode cX8_writeShips 57 = .ok (.ireturn, 1) := by decide +kernel
theorem dX8_writtenByte_0 : decode cX8_writtenByte 0 = .ok (.iload_n 1, 1) := by decide +kernel
theorem dX8_writtenByte_1 : decode cX8_writtenByte 1 = .ok (.ifCond .lt 14, 3) := by decide +kernel
theorem dX8_writtenByte_4 : decode cX8_writtenByte 4 = .ok (.iload_n 1, 1) := by decide +kernel
theorem dX8_writtenByte_5 : decode cX8_writtenByte 5 = .ok (.aload_n 0, 1) := by decide +kernel
theorem dX8_writtenByte_6 : decode cX8_writtenByte 6 = .ok (.getfield 61, 3) := by decide +kernel
theorem dX8_writtenByte_9 : decode cX8_writtenByte 9 = .ok (.getfield 336, 3) := by decide +kernel
theorem dX8_writtenByte_12 : decode cX8_writtenByte 12 = .ok (.if_icmp .lt 14, 3) := by decide +kernel
theorem dX8_writtenByte_15 : decode cX8_writtenByte 15 = .ok (.new 182, 3) := by decide +kernel
theorem dX8_writtenByte_18 : decode cX8_writtenByte 18 = .ok (.dup, 1) := by decide +kernel
theorem dX8_writtenByte_19 : decode cX8_writtenByte 19 = .ok (.ldc_w 340, 3) := by decide +kernel
theorem dX8_writtenByte_22 : decode cX8_writtenByte 22 = .ok (.invokespecial 186, 3) := by decide +kernel
theorem dX8_writtenByte_25 : decode cX8_writtenByte 25 = .ok (.athrow, 1) := by decide +kernel
theorem dX8_writtenByte_26 : decode cX8_writtenByte 26 = .ok (.aload_n 0, 1) := by decide +kernel
theorem dX8_writtenByte_27 : decode cX8_writtenByte 27 = .ok (.getfield 61, 3) := by decide +kernel
theorem dX8_writtenByte_30 : decode cX8_writtenByte 30 = .ok (.getfield 342, 3) := by decide +kernel
theorem dX8_writtenByte_33 : decode cX8_writtenByte 33 = .ok (.iload_n 1, 1) := by decide +kernel
theorem dX8_writtenByte_34 : decode cX8_writtenByte 34 = .ok (.iaload, 1) := by decide +kernel
theorem dX8_writtenByte_35 : decode cX8_writtenByte 35 = .ok (.ireturn, 1) := by decide +kernel
theorem dX8_needShip_0 : decode cX8_needShip 0 = .ok (.iload_n 1, 1) := by decide +kernel
theorem dX8_needShip_1 : decode cX8_needShip 1 = .ok (.ifCond .lt 14, 3) := by decide +kernel
theorem dX8_needShip_4 : decode cX8_needShip 4 = .ok (.iload_n 1, 1) := by decide +kernel
theorem dX8_needShip_5 : decode cX8_needShip 5 = .ok (.aload_n 0, 1) := by decide +kernel
theorem dX8_needShip_6 : decode cX8_needShip 6 = .ok (.getfield 24, 3) := by decide +kernel
theorem dX8_needShip_9 : decode cX8_needShip 9 = .ok (.getfield 111, 3) := by decide +kernel
theorem dX8_needShip_12 : decode cX8_needShip 12 = .ok (.if_icmp .lt 14, 3) := by decide +kernel
theorem dX8_needShip_15 : decode cX8_needShip 15 = .ok (.new 182, 3) := by decide +kernel
theorem dX8_needShip_18 : decode cX8_needShip 18 = .ok (.dup, 1) := by decide +kernel
theorem dX8_needShip_19 : decode cX8_needShip 19 = .ok (.ldc_w 345, 3) := by decide +kernel
theorem dX8_needShip_22 : decode cX8_needShip 22 = .ok (.invokespecial 186, 3) := by decide +kernel
theorem dX8_needShip_25 : decode cX8_needShip 25 = .ok (.athrow, 1) := by decide +kernel
theorem dX8_needShip_26 : decode cX8_needShip 26 = .ok (.return_, 1) := by decide +kernel
theorem dX8_needShipNumber_0 : decode cX8_needShipNumber 0 = .ok (.iload_n 0, 1) := by decide +kernel
theorem dX8_needShipNumber_1 : decode cX8_needShipNumber 1 = .ok (.ifCond .lt 9, 3) := by decide +kernel
theorem dX8_needShipNumber_4 : decode cX8_needShipNumber 4 = .ok (.iload_n 0, 1) := by decide +kernel
theorem dX8_needShipNumber_5 : decode cX8_needShipNumber 5 = .ok (.bipush 11, 2) := by decide +kernel
theorem dX8_needShipNumber_7 : decode cX8_needShipNumber 7 = .ok (.if_icmp .lt 14, 3) := by decide +kernel
theorem dX8_needShipNumber_10 : decode cX8_needShipNumber 10 = .ok (.new 142, 3) := by decide +kernel
theorem dX8_needShipNumber_13 : decode cX8_needShipNumber 13 = .ok (.dup, 1) := by decide +kernel
theorem dX8_needShipNumber_14 : decode cX8_needShipNumber 14 = .ok (.ldc_w 347, 3) := by decide +kernel
theorem dX8_needShipNumber_17 : decode cX8_needShipNumber 17 = .ok (.invokespecial 146, 3) := by decide +kernel
theorem dX8_needShipNumber_20 : decode cX8_needShipNumber 20 = .ok (.athrow, 1) := by decide +kernel
theorem dX8_needShipNumber_21 : decode cX8_needShipNumber 21 = .ok (.return_, 1) := by decide +kernel
theorem dX8_needFleet_0 : decode cX8_needFleet 0 = .ok (.iload_n 1, 1) := by decide +kernel
theorem dX8_needFleet_1 : decode cX8_needFleet 1 = .ok (.ifCond .lt 14, 3) := by decide +kernel
theorem dX8_needFleet_4 : decode cX8_needFleet 4 = .ok (.iload_n 1, 1) := by decide +kernel
theorem dX8_needFleet_5 : decode cX8_needFleet 5 = .ok (.aload_n 0, 1) := by decide +kernel
theorem dX8_needFleet_6 : decode cX8_needFleet 6 = .ok (.getfield 24, 3) := by decide +kernel
theorem dX8_needFleet_9 : decode cX8_needFleet 9 = .ok (.getfield 75, 3) := by decide +kernel
theorem dX8_needFleet_12 : decode cX8_needFleet 12 = .ok (.if_icmp .lt 14, 3) := by decide +kernel
theorem dX8_needFleet_15 : decode cX8_needFleet 15 = .ok (.new 182, 3) := by decide +kernel
theorem dX8_needFleet_18 : decode cX8_needFleet 18 = .ok (.dup, 1) := by decide +kernel
theorem dX8_needFleet_19 : decode cX8_needFleet 19 = .ok (.ldc_w 349, 3) := by decide +kernel
theorem dX8_needFleet_22 : decode cX8_needFleet 22 = .ok (.invokespecial 186, 3) := by decide +kernel
theorem dX8_needFleet_25 : decode cX8_needFleet 25 = .ok (.athrow, 1) := by decide +kernel
theorem dX8_needFleet_26 : decode cX8_needFleet 26 = .ok (.return_, 1) := by decide +kernel
theorem dX8_needPulse_0 : decode cX8_needPulse 0 = .ok (.iload_n 0, 1) := by decide +kernel
theorem dX8_needPulse_1 : decode cX8_needPulse 1 = .ok (.ifCond .lt 9, 3) := by decide +kernel
theorem dX8_needPulse_4 : decode cX8_needPulse 4 = .ok (.iload_n 0, 1) := by decide +kernel
theorem dX8_needPulse_5 : decode cX8_needPulse 5 = .ok (.bipush 6, 2) := by decide +kernel
theorem dX8_needPulse_7 : decode cX8_needPulse 7 = .ok (.if_icmp .lt 14, 3) := by decide +kernel
theorem dX8_needPulse_10 : decode cX8_needPulse 10 = .ok (.new 182, 3) := by decide +kernel
theorem dX8_needPulse_13 : decode cX8_needPulse 13 = .ok (.dup, 1) := by decide +kernel
theorem dX8_needPulse_14 : decode cX8_needPulse 14 = .ok (.ldc_w 351, 3) := by decide +kernel
theorem dX8_needPulse_17 : decode cX8_needPulse 17 = .ok (.invokespecial 186, 3) := by decide +kernel
theorem dX8_needPulse_20 : decode cX8_needPulse 20 = .ok (.athrow, 1) := by decide +kernel
theorem dX8_needPulse_21 : decode cX8_needPulse 21 = .ok (.return_, 1) := by decide +kernel
theorem dX8_needLogged_0 : decode cX8_needLogged 0 = .ok (.aload_n 0, 1) := by decide +kernel
theorem dX8_needLogged_1 : decode cX8_needLogged 1 = .ok (.getfield 24, 3) := by decide +kernel
theorem dX8_needLogged_4 : decode cX8_needLogged 4 = .ok (.iload_n 1, 1) := by decide +kernel
theorem dX8_needLogged_5 : decode cX8_needLogged 5 = .ok (.invokevirtual 229, 3) := by decide +kernel
theorem dX8_needLogged_8 : decode cX8_needLogged 8 = .ok (.ifCond .ne 14, 3) := by decide +kernel
theorem dX8_needLogged_11 : decode cX8_needLogged 11 = .ok (.new 182, 3) := by decide +kernel
theorem dX8_needLogged_14 : decode cX8_needLogged 14 = .ok (.dup, 1) := by decide +kernel
theorem dX8_needLogged_15 : decode cX8_needLogged 15 = .ok (.ldc_w 353, 3) := by decide +kernel
theorem dX8_needLogged_18 : decode cX8_needLogged 18 = .ok (.invokespecial 186, 3) := by decide +kernel
theorem dX8_needLogged_21 : decode cX8_needLogged 21 = .ok (.athrow, 1) := by decide +kernel
theorem dX8_needLogged_22 : decode cX8_needLogged 22 = .ok (.return_, 1) := by decide +kernel
theorem dX8_needSlot_0 : decode cX8_needSlot 0 = .ok (.iload_n 0, 1) := by decide +kernel
theorem dX8_needSlot_1 : decode cX8_needSlot 1 = .ok (.ifCond .lt 8, 3) := by decide +kernel
theorem dX8_needSlot_4 : decode cX8_needSlot 4 = .ok (.iload_n 0, 1) := by decide +kernel
theorem dX8_needSlot_5 : decode cX8_needSlot 5 = .ok (.iconst 2, 1) := by decide +kernel
theorem dX8_needSlot_6 : decode cX8_needSlot 6 = .ok (.if_icmp .lt 14, 3) := by decide +kernel
theorem dX8_needSlot_9 : decode cX8_needSlot 9 = .ok (.new 182, 3) := by decide +kernel
theorem dX8_needSlot_12 : decode cX8_needSlot 12 = .ok (.dup, 1) := by decide +kernel
theorem dX8_needSlot_13 : decode cX8_needSlot 13 = .ok (.ldc_w 355, 3) := by decide +kernel
theorem dX8_needSlot_16 : decode cX8_needSlot 16 = .ok (.invokespecial 186, 3) := by decide +kernel
theorem dX8_needSlot_19 : decode cX8_needSlot 19 = .ok (.athrow, 1) := by decide +kernel
theorem dX8_needSlot_20 : decode cX8_needSlot 20 = .ok (.return_, 1) := by decide +kernel
theorem dX8_runDraft_0 : decode cX8_runDraft 0 = .ok (.aload_n 0, 1) := by decide +kernel
theorem dX8_runDraft_1 : decode cX8_runDraft 1 = .ok (.getfield 28, 3) := by decide +kernel
theorem dX8_runDraft_4 : decode cX8_runDraft 4 = .ok (.aload_n 0, 1) := by decide +kernel
theorem dX8_runDraft_5 : decode cX8_runDraft 5 = .ok (.getfield 24, 3) := by decide +kernel
theorem dX8_runDraft_8 : decode cX8_runDraft 8 = .ok (.invokevirtual 108, 3) := by decide +kernel
theorem dX8_runDraft_11 : decode cX8_runDraft 11 = .ok (.aload_n 0, 1) := by decide +kernel
theorem dX8_runDraft_12 : decode cX8_runDraft 12 = .ok (.getfield 28, 3) := by decide +kernel
theorem dX8_runDraft_15 : decode cX8_runDraft 15 = .ok (.invokevirtual 261, 3) := by decide +kernel
theorem dX8_runDraft_18 : decode cX8_runDraft 18 = .ok (.aload_n 0, 1) := by decide +kernel
theorem dX8_runDraft_19 : decode cX8_runDraft 19 = .ok (.getfield 34, 3) := by decide +kernel
theorem dX8_runDraft_22 : decode cX8_runDraft 22 = .ok (.aload_n 0, 1) := by decide +kernel
theorem dX8_runDraft_23 : decode cX8_runDraft 23 = .ok (.getfield 28, 3) := by decide +kernel
theorem dX8_runDraft_26 : decode cX8_runDraft 26 = .ok (.bipush 6, 2) := by decide +kernel
theorem dX8_runDraft_28 : decode cX8_runDraft 28 = .ok (.invokevirtual 264, 3) := by decide +kernel
theorem dX8_runDraft_31 : decode cX8_runDraft 31 = .ok (.return_, 1) := by decide +kernel
theorem dX8_isDirection_0 : decode cX8_isDirection 0 = .ok (.iload_n 0, 1) := by decide +kernel
theorem dX8_isDirection_1 : decode cX8_isDirection 1 = .ok (.ifCond .lt 13, 3) := by decide +kernel
theorem dX8_isDirection_4 : decode cX8_isDirection 4 = .ok (.iload_n 0, 1) := by decide +kernel
theorem dX8_isDirection_5 : decode cX8_isDirection 5 = .ok (.bipush 8, 2) := by decide +kernel
theorem dX8_isDirection_7 : decode cX8_isDirection 7 = .ok (.if_icmp .ge 7, 3) := by decide +kernel
theorem dX8_isDirection_10 : decode cX8_isDirection 10 = .ok (.iconst 1, 1) := by decide +kernel
theorem dX8_isDirection_11 : decode cX8_isDirection 11 = .ok (.goto 4, 3) := by decide +kernel
theorem dX8_isDirection_14 : decode cX8_isDirection 14 = .ok (.iconst 0, 1) := by decide +kernel
theorem dX8_isDirection_15 : decode cX8_isDirection 15 = .ok (.ireturn, 1) := by decide +kernel
theorem dX8_isKey_0 : decode cX8_isKey 0 = .ok (.iload_n 0, 1) := by decide +kernel
theorem dX8_isKey_1 : decode cX8_isKey 1 = .ok (.ifCond .lt 14, 3) := by decide +kernel
theorem dX8_isKey_4 : decode cX8_isKey 4 = .ok (.iload_n 0, 1) := by decide +kernel
theorem dX8_isKey_5 : decode cX8_isKey 5 = .ok (.ldc_w 357, 3) := by decide +kernel
theorem dX8_isKey_8 : decode cX8_isKey 8 = .ok (.if_icmp .gt 7, 3) := by decide +kernel
theorem dX8_isKey_11 : decode cX8_isKey 11 = .ok (.iconst 1, 1) := by decide +kernel
theorem dX8_isKey_12 : decode cX8_isKey 12 = .ok (.goto 4, 3) := by decide +kernel
theorem dX8_isKey_15 : decode cX8_isKey 15 = .ok (.iconst 0, 1) := by decide +kernel
theorem dX8_isKey_16 : decode cX8_isKey 16 = .ok (.ireturn, 1) := by decide +kernel
theorem dX8_bytesIn_0 : decode cX8_bytesIn 0 = .ok (.iconst 0, 1) := by decide +kernel
theorem dX8_bytesIn_1 : decode cX8_bytesIn 1 = .ok (.istore_n 1, 1) := by decide +kernel
theorem dX8_bytesIn_2 : decode cX8_bytesIn 2 = .ok (.bipush 24, 2) := by decide +kernel
theorem dX8_bytesIn_4 : decode cX8_bytesIn 4 = .ok (.istore_n 2, 1) := by decide +kernel
theorem dX8_bytesIn_5 : decode cX8_bytesIn 5 = .ok (.iload_n 2, 1) := by decide +kernel
theorem dX8_bytesIn_6 : decode cX8_bytesIn 6 = .ok (.ifCond .lt 22, 3) := by decide +kernel
theorem dX8_bytesIn_9 : decode cX8_bytesIn 9 = .ok (.iload_n 0, 1) := by decide +kernel
theorem dX8_bytesIn_10 : decode cX8_bytesIn 10 = .ok (.iload_n 2, 1) := by decide +kernel
theorem dX8_bytesIn_11 : decode cX8_bytesIn 11 = .ok (.ishr, 1) := by decide +kernel
theorem dX8_bytesIn_12 : decode cX8_bytesIn 12 = .ok (.sipush 255, 3) := by decide +kernel
theorem dX8_bytesIn_15 : decode cX8_bytesIn 15 = .ok (.iand, 1) := by decide +kernel
theorem dX8_bytesIn_16 : decode cX8_bytesIn 16 = .ok (.ifCond .eq 6, 3) := by decide +kernel
theorem dX8_bytesIn_19 : decode cX8_bytesIn 19 = .ok (.iinc 1 1, 3) := by decide +kernel
theorem dX8_bytesIn_22 : decode cX8_bytesIn 22 = .ok (.iinc 2 (-8), 3) := by decide +kernel
theorem dX8_bytesIn_25 : decode cX8_bytesIn 25 = .ok (.goto (-20), 3) := by decide +kernel
theorem dX8_bytesIn_28 : decode cX8_bytesIn 28 = .ok (.iload_n 1, 1) := by decide +kernel
theorem dX8_bytesIn_29 : decode cX8_bytesIn 29 = .ok (.ireturn, 1) := by decide +kernel
theorem dX8_angleOf_0 : decode cX8_angleOf 0 = .ok (.iload_n 0, 1) := by decide +kernel
theorem dX8_angleOf_1 : decode cX8_angleOf 1 = .ok (.iload_n 1, 1) := by decide +kernel
theorem dX8_angleOf_2 : decode cX8_angleOf 2 = .ok (.isub, 1) := by decide +kernel
theorem dX8_angleOf_3 : decode cX8_angleOf 3 = .ok (.bipush 7, 2) := by decide +kernel
theorem dX8_angleOf_5 : decode cX8_angleOf 5 = .ok (.iand, 1) := by decide +kernel
theorem dX8_angleOf_6 : decode cX8_angleOf 6 = .ok (.istore_n 2, 1) := by decide +kernel
theorem dX8_angleOf_7 : decode cX8_angleOf 7 = .ok (.iload_n 2, 1) := by decide +kernel
theorem dX8_angleOf_8 : decode cX8_angleOf 8 = .ok (.iconst 4, 1) := by decide +kernel
theorem dX8_angleOf_9 : decode cX8_angleOf 9 = .ok (.if_icmp .le 10, 3) := by decide +kernel
theorem dX8_angleOf_12 : decode cX8_angleOf 12 = .ok (.bipush 8, 2) := by decide +kernel
theorem dX8_angleOf_14 : decode cX8_angleOf 14 = .ok (.iload_n 2, 1) := by decide +kernel
theorem dX8_angleOf_15 : decode cX8_angleOf 15 = .ok (.isub, 1) := by decide +kernel
theorem dX8_angleOf_16 : decode cX8_angleOf 16 = .ok (.goto 4, 3) := by decide +kernel
theorem dX8_angleOf_19 : decode cX8_angleOf 19 = .ok (.iload_n 2, 1) := by decide +kernel
theorem dX8_angleOf_20 : decode cX8_angleOf 20 = .ok (.ireturn, 1) := by decide +kernel
theorem dX8_cellOf_0 : decode cX8_cellOf 0 = .ok (.bipush 100, 2) := by decide +kernel
theorem dX8_cellOf_2 : decode cX8_cellOf 2 = .ok (.iload_n 0, 1) := by decide +kernel
theorem dX8_cellOf_3 : decode cX8_cellOf 3 = .ok (.imul, 1) := by decide +kernel
theorem dX8_cellOf_4 : decode cX8_cellOf 4 = .ok (.iload_n 1, 1) := by decide +kernel
theorem dX8_cellOf_5 : decode cX8_cellOf 5 = .ok (.iadd, 1) := by decide +kernel
theorem dX8_cellOf_6 : decode cX8_cellOf 6 = .ok (.ireturn, 1) := by decide +kernel
