theorem dX8_init_0 : decode cX8_init 0 = .ok (.aload_n 0, 1) := by decide +kernel
theorem dX8_init_1 : decode cX8_init 1 = .ok (.invokespecial 3, 3) := by decide +kernel
theorem dX8_init_4 : decode cX8_init 4 = .ok (.aload_n 0, 1) := by decide +kernel
theorem dX8_init_5 : decode cX8_init 5 = .ok (.new 9, 3) := by decide +kernel
theorem dX8_init_8 : decode cX8_init 8 = .ok (.dup, 1) := by decide +kernel
theorem dX8_init_9 : decode cX8_init 9 = .ok (.invokespecial 11, 3) := by decide +kernel
theorem dX8_init_12 : decode cX8_init 12 = .ok (.putfield 12, 3) := by decide +kernel
theorem dX8_init_15 : decode cX8_init 15 = .ok (.aload_n 0, 1) := by decide +kernel
theorem dX8_init_16 : decode cX8_init 16 = .ok (.new 16, 3) := by decide +kernel
theorem dX8_init_19 : decode cX8_init 19 = .ok (.dup, 1) := by decide +kernel
theorem dX8_init_20 : decode cX8_init 20 = .ok (.invokespecial 18, 3) := by decide +kernel
theorem dX8_init_23 : decode cX8_init 23 = .ok (.putfield 19, 3) := by decide +kernel
theorem dX8_init_26 : decode cX8_init 26 = .ok (.aload_n 0, 1) := by decide +kernel
theorem dX8_init_27 : decode cX8_init 27 = .ok (.new 23, 3) := by decide +kernel
theorem dX8_init_30 : decode cX8_init 30 = .ok (.dup, 1) := by decide +kernel
theorem dX8_init_31 : decode cX8_init 31 = .ok (.invokespecial 25, 3) := by decide +kernel
theorem dX8_init_34 : decode cX8_init 34 = .ok (.putfield 26, 3) := by decide +kernel
theorem dX8_init_37 : decode cX8_init 37 = .ok (.aload_n 0, 1) := by decide +kernel
theorem dX8_init_38 : decode cX8_init 38 = .ok (.new 30, 3) := by decide +kernel
theorem dX8_init_41 : decode cX8_init 41 = .ok (.dup, 1) := by decide +kernel
theorem dX8_init_42 : decode cX8_init 42 = .ok (.invokespecial 32, 3) := by decide +kernel
theorem dX8_init_45 : decode cX8_init 45 = .ok (.putfield 33, 3) := by decide +kernel
theorem dX8_init_48 : decode cX8_init 48 = .ok (.aload_n 0, 1) := by decide +kernel
theorem dX8_init_49 : decode cX8_init 49 = .ok (.new 37, 3) := by decide +kernel
theorem dX8_init_52 : decode cX8_init 52 = .ok (.dup, 1) := by decide +kernel
theorem dX8_init_53 : decode cX8_init 53 = .ok (.invokespecial 39, 3) := by decide +kernel
theorem dX8_init_56 : decode cX8_init 56 = .ok (.putfield 40, 3) := by decide +kernel
theorem dX8_init_59 : decode cX8_init 59 = .ok (.aload_n 0, 1) := by decide +kernel
theorem dX8_init_60 : decode cX8_init 60 = .ok (.bipush 6, 2) := by decide +kernel
theorem dX8_init_62 : decode cX8_init 62 = .ok (.bipush 16, 2) := by decide +kernel
theorem dX8_init_64 : decode cX8_init 64 = .ok (.multianewarray 44 2, 4) := by decide +kernel
theorem dX8_init_68 : decode cX8_init 68 = .ok (.putfield 46, 3) := by decide +kernel
theorem dX8_init_71 : decode cX8_init 71 = .ok (.aload_n 0, 1) := by decide +kernel
theorem dX8_init_72 : decode cX8_init 72 = .ok (.bipush 16, 2) := by decide +kernel
theorem dX8_init_74 : decode cX8_init 74 = .ok (.newarray .int, 2) := by decide +kernel
theorem dX8_init_76 : decode cX8_init 76 = .ok (.putfield 49, 3) := by decide +kernel
theorem dX8_init_79 : decode cX8_init 79 = .ok (.aload_n 0, 1) := by decide +kernel
theorem dX8_init_80 : decode cX8_init 80 = .ok (.bipush 8, 2) := by decide +kernel
theorem dX8_init_82 : decode cX8_init 82 = .ok (.newarray .int, 2) := by decide +kernel
theorem dX8_init_84 : decode cX8_init 84 = .ok (.putfield 53, 3) := by decide +kernel
theorem dX8_init_87 : decode cX8_init 87 = .ok (.return_, 1) := by decide +kernel
theorem dX8_addRoom_0 : decode cX8_addRoom 0 = .ok (.iload_n 1, 1) := by decide +kernel
theorem dX8_addRoom_1 : decode cX8_addRoom 1 = .ok (.iconst 0, 1) := by decide +kernel
theorem dX8_addRoom_2 : decode cX8_addRoom 2 = .ok (.iconst 2, 1) := by decide +kernel
theorem dX8_addRoom_3 : decode cX8_addRoom 3 = .ok (.invokestatic 56, 3) := by decide +kernel
theorem dX8_addRoom_6 : decode cX8_addRoom 6 = .ok (.ifCond .ne 22, 3) := by decide +kernel
theorem dX8_addRoom_9 : decode cX8_addRoom 9 = .ok (.iload_n 2, 1) := by decide +kernel
theorem dX8_addRoom_10 : decode cX8_addRoom 10 = .ok (.iconst 0, 1) := by decide +kernel
theorem dX8_addRoom_11 : decode cX8_addRoom 11 = .ok (.iconst 3, 1) := by decide +kernel
theorem dX8_addRoom_12 : decode cX8_addRoom 12 = .ok (.invokestatic 56, 3) := by decide +kernel
theorem dX8_addRoom_15 : decode cX8_addRoom 15 = .ok (.ifCond .ne 13, 3) := by decide +kernel
theorem dX8_addRoom_18 : decode cX8_addRoom 18 = .ok (.iload_n 3, 1) := by decide +kernel
theorem dX8_addRoom_19 : decode cX8_addRoom 19 = .ok (.iconst 1, 1) := by decide +kernel
theorem dX8_addRoom_20 : decode cX8_addRoom 20 = .ok (.bipush 99, 2) := by decide +kernel
theorem dX8_addRoom_22 : decode cX8_addRoom 22 = .ok (.invokestatic 56, 3) := by decide +kernel
theorem dX8_addRoom_25 : decode cX8_addRoom 25 = .ok (.ifCond .eq 13, 3) := by decide +kernel
theorem dX8_addRoom_28 : decode cX8_addRoom 28 = .ok (.new 60, 3) := by decide +kernel
theorem dX8_addRoom_31 : decode cX8_addRoom 31 = .ok (.dup, 1) := by decide +kernel
theorem dX8_addRoom_32 : decode cX8_addRoom 32 = .ok (.ldc 62, 2) := by decide +kernel
theorem dX8_addRoom_34 : decode cX8_addRoom 34 = .ok (.invokespecial 64, 3) := by decide +kernel
theorem dX8_addRoom_37 : decode cX8_addRoom 37 = .ok (.athrow, 1) := by decide +kernel
theorem dX8_addRoom_38 : decode cX8_addRoom 38 = .ok (.aload_n 0, 1) := by decide +kernel
theorem dX8_addRoom_39 : decode cX8_addRoom 39 = .ok (.getfield 19, 3) := by decide +kernel
theorem dX8_addRoom_42 : decode cX8_addRoom 42 = .ok (.getfield 67, 3) := by decide +kernel
theorem dX8_addRoom_45 : decode cX8_addRoom 45 = .ok (.invokevirtual 70, 3) := by decide +kernel
theorem dX8_addRoom_48 : decode cX8_addRoom 48 = .ok (.istore 4, 2) := by decide +kernel
theorem dX8_addRoom_50 : decode cX8_addRoom 50 = .ok (.iload 4, 2) := by decide +kernel
theorem dX8_addRoom_52 : decode cX8_addRoom 52 = .ok (.bipush 8, 2) := by decide +kernel
theorem dX8_addRoom_54 : decode cX8_addRoom 54 = .ok (.if_icmp .lt 13, 3) := by decide +kernel
theorem dX8_addRoom_57 : decode cX8_addRoom 57 = .ok (.new 74, 3) := by decide +kernel
theorem dX8_addRoom_60 : decode cX8_addRoom 60 = .ok (.dup, 1) := by decide +kernel
theorem dX8_addRoom_61 : decode cX8_addRoom 61 = .ok (.ldc 76, 2) := by decide +kernel
theorem dX8_addRoom_63 : decode cX8_addRoom 63 = .ok (.invokespecial 78, 3) := by decide +kernel
theorem dX8_addRoom_66 : decode cX8_addRoom 66 = .ok (.athrow, 1) := by decide +kernel
theorem dX8_addRoom_67 : decode cX8_addRoom 67 = .ok (.aload_n 0, 1) := by decide +kernel
theorem dX8_addRoom_68 : decode cX8_addRoom 68 = .ok (.getfield 19, 3) := by decide +kernel
theorem dX8_addRoom_71 : decode cX8_addRoom 71 = .ok (.getfield 67, 3) := by decide +kernel
theorem dX8_addRoom_74 : decode cX8_addRoom 74 = .ok (.new 79, 3) := by decide +kernel
theorem dX8_addRoom_77 : decode cX8_addRoom 77 = .ok (.dup, 1) := by decide +kernel
theorem dX8_addRoom_78 : decode cX8_addRoom 78 = .ok (.iload 4, 2) := by decide +kernel
theorem dX8_addRoom_80 : decode cX8_addRoom 80 = .ok (.iload_n 1, 1) := by decide +kernel
theorem dX8_addRoom_81 : decode cX8_addRoom 81 = .ok (.iload_n 2, 1) := by decide +kernel
theorem dX8_addRoom_82 : decode cX8_addRoom 82 = .ok (.iload_n 3, 1) := by decide +kernel
theorem dX8_addRoom_83 : decode cX8_addRoom 83 = .ok (.invokespecial 81, 3) := by decide +kernel
theorem dX8_addRoom_86 : decode cX8_addRoom 86 = .ok (.invokevirtual 84, 3) := by decide +kernel
theorem dX8_addRoom_89 : decode cX8_addRoom 89 = .ok (.pop, 1) := by decide +kernel
theorem dX8_addRoom_90 : decode cX8_addRoom 90 = .ok (.iload 4, 2) := by decide +kernel
theorem dX8_addRoom_92 : decode cX8_addRoom 92 = .ok (.ireturn, 1) := by decide +kernel
theorem dX8_addTeacher_0 : decode cX8_addTeacher 0 = .ok (.iload_n 1, 1) := by decide +kernel
theorem dX8_addTeacher_1 : decode cX8_addTeacher 1 = .ok (.iconst 0, 1) := by decide +kernel
theorem dX8_addTeacher_2 : decode cX8_addTeacher 2 = .ok (.bipush 31, 2) := by decide +kernel
theorem dX8_addTeacher_4 : decode cX8_addTeacher 4 = .ok (.invokestatic 56, 3) := by decide +kernel
theorem dX8_addTeacher_7 : decode cX8_addTeacher 7 = .ok (.ifCond .eq 13, 3) := by decide +kernel
theorem dX8_addTeacher_10 : decode cX8_addTeacher 10 = .ok (.new 60, 3) := by decide +kernel
theorem dX8_addTeacher_13 : decode cX8_addTeacher 13 = .ok (.dup, 1) := by decide +kernel
theorem dX8_addTeacher_14 : decode cX8_addTeacher 14 = .ok (.ldc 88, 2) := by decide +kernel
theorem dX8_addTeacher_16 : decode cX8_addTeacher 16 = .ok (.invokespecial 64, 3) := by decide +kernel
theorem dX8_addTeacher_19 : decode cX8_addTeacher 19 = .ok (.athrow, 1) := by decide +kernel
theorem dX8_addTeacher_20 : decode cX8_addTeacher 20 = .ok (.aload_n 0, 1) := by decide +kernel
theorem dX8_addTeacher_21 : decode cX8_addTeacher 21 = .ok (.getfield 12, 3) := by decide +kernel
theorem dX8_addTeacher_24 : decode cX8_addTeacher 24 = .ok (.invokevirtual 70, 3) := by decide +kernel
theorem dX8_addTeacher_27 : decode cX8_addTeacher 27 = .ok (.istore_n 2, 1) := by decide +kernel
theorem dX8_addTeacher_28 : decode cX8_addTeacher 28 = .ok (.iload_n 2, 1) := by decide +kernel
theorem dX8_addTeacher_29 : decode cX8_addTeacher 29 = .ok (.bipush 8, 2) := by decide +kernel
theorem dX8_addTeacher_31 : decode cX8_addTeacher 31 = .ok (.if_icmp .lt 13, 3) := by decide +kernel
theorem dX8_addTeacher_34 : decode cX8_addTeacher 34 = .ok (.new 74, 3) := by decide +kernel
theorem dX8_addTeacher_37 : decode cX8_addTeacher 37 = .ok (.dup, 1) := by decide +kernel
theorem dX8_addTeacher_38 : decode cX8_addTeacher 38 = .ok (.ldc 90, 2) := by decide +kernel
theorem dX8_addTeacher_40 : decode cX8_addTeacher 40 = .ok (.invokespecial 78, 3) := by decide +kernel
theorem dX8_addTeacher_43 : decode cX8_addTeacher 43 = .ok (.athrow, 1) := by decide +kernel
theorem dX8_addTeacher_44 : decode cX8_addTeacher 44 = .ok (.aload_n 0, 1) := by decide +kernel
theorem dX8_addTeacher_45 : decode cX8_addTeacher 45 = .ok (.getfield 12, 3) := by decide +kernel
theorem dX8_addTeacher_48 : decode cX8_addTeacher 48 = .ok (.new 92, 3) := by decide +kernel
theorem dX8_addTeacher_51 : decode cX8_addTeacher 51 = .ok (.dup, 1) := by decide +kernel
theorem dX8_addTeacher_52 : decode cX8_addTeacher 52 = .ok (.iload_n 1, 1) := by decide +kernel
theorem dX8_addTeacher_53 : decode cX8_addTeacher 53 = .ok (.invokestatic 94, 3) := by decide +kernel
theorem dX8_addTeacher_56 : decode cX8_addTeacher 56 = .ok (.invokespecial 98, 3) := by decide +kernel
theorem dX8_addTeacher_59 : decode cX8_addTeacher 59 = .ok (.invokevirtual 84, 3) := by decide +kernel
theorem dX8_addTeacher_62 : decode cX8_addTeacher 62 = .ok (.pop, 1) := by decide +kernel
theorem dX8_addTeacher_63 : decode cX8_addTeacher 63 = .ok (.iload_n 2, 1) := by decide +kernel
theorem dX8_addTeacher_64 : decode cX8_addTeacher 64 = .ok (.ireturn, 1) := by decide +kernel
theorem dX8_addGroup_0 : decode cX8_addGroup 0 = .ok (.iload_n 1, 1) := by decide +kernel
theorem dX8_addGroup_1 : decode cX8_addGroup 1 = .ok (.iconst 1, 1) := by decide +kernel
theorem dX8_addGroup_2 : decode cX8_addGroup 2 = .ok (.bipush 99, 2) := by decide +kernel
theorem dX8_addGroup_4 : decode cX8_addGroup 4 = .ok (.invokestatic 56, 3) := by decide +kernel
theorem dX8_addGroup_7 : decode cX8_addGroup 7 = .ok (.ifCond .eq 13, 3) := by decide +kernel
theorem dX8_addGroup_10 : decode cX8_addGroup 10 = .ok (.new 60, 3) := by decide +kernel
theorem dX8_addGroup_13 : decode cX8_addGroup 13 = .ok (.dup, 1) := by decide +kernel
theorem dX8_addGroup_14 : decode cX8_addGroup 14 = .ok (.ldc 101, 2) := by decide +kernel
theorem dX8_addGroup_16 : decode cX8_addGroup 16 = .ok (.invokespecial 64, 3) := by decide +kernel
theorem dX8_addGroup_19 : decode cX8_addGroup 19 = .ok (.athrow, 1) := by decide +kernel
theorem dX8_addGroup_20 : decode cX8_addGroup 20 = .ok (.aload_n 0, 1) := by decide +kernel
theorem dX8_addGroup_21 : decode cX8_addGroup 21 = .ok (.getfield 19, 3) := by decide +kernel
theorem dX8_addGroup_24 : decode cX8_addGroup 24 = .ok (.getfield 103, 3) := by decide +kernel
theorem dX8_addGroup_27 : decode cX8_addGroup 27 = .ok (.invokevirtual 70, 3) := by decide +kernel
theorem dX8_addGroup_30 : decode cX8_addGroup 30 = .ok (.istore_n 2, 1) := by decide +kernel
theorem dX8_addGroup_31 : decode cX8_addGroup 31 = .ok (.iload_n 2, 1) := by decide +kernel
theorem dX8_addGroup_32 : decode cX8_addGroup 32 = .ok (.bipush 8, 2) := by decide +kernel
theorem dX8_addGroup_34 : decode cX8_addGroup 34 = .ok (.if_icmp .lt 13, 3) := by decide +kernel
theorem dX8_addGroup_37 : decode cX8_addGroup 37 = .ok (.new 74, 3) := by decide +kernel
theorem dX8_addGroup_40 : decode cX8_addGroup 40 = .ok (.dup, 1) := by decide +kernel
theorem dX8_addGroup_41 : decode cX8_addGroup 41 = .ok (.ldc 106, 2) := by decide +kernel
theorem dX8_addGroup_43 : decode cX8_addGroup 43 = .ok (.invokespecial 78, 3) := by decide +kernel
theorem dX8_addGroup_46 : decode cX8_addGroup 46 = .ok (.athrow, 1) := by decide +kernel
theorem dX8_addGroup_47 : decode cX8_addGroup 47 = .ok (.aload_n 0, 1) := by decide +kernel
theorem dX8_addGroup_48 : decode cX8_addGroup 48 = .ok (.getfield 19, 3) := by decide +kernel
theorem dX8_addGroup_51 : decode cX8_addGroup 51 = .ok (.getfield 103, 3) := by decide +kernel
theorem dX8_addGroup_54 : decode cX8_addGroup 54 = .ok (.new 108, 3) := by decide +kernel
theorem dX8_addGroup_57 : decode cX8_addGroup 57 = .ok (.dup, 1) := by decide +kernel
theorem dX8_addGroup_58 : decode cX8_addGroup 58 = .ok (.iload_n 1, 1) := by decide +kernel
theorem dX8_addGroup_59 : decode cX8_addGroup 59 = .ok (.invokespecial 110, 3) := by decide +kernel
theorem dX8_addGroup_62 : decode cX8_addGroup 62 = .ok (.invokevirtual 84, 3) := by decide +kernel
theorem dX8_addGroup_65 : decode cX8_addGroup 65 = .ok (.pop, 1) := by decide +kernel
theorem dX8_addGroup_66 : decode cX8_addGroup 66 = .ok (.iload_n 2, 1) := by decide +kernel
theorem dX8_addGroup_67 : decode cX8_addGroup 67 = .ok (.ireturn, 1) := by decide +kernel
theorem dX8_addLesson_0 : decode cX8_addLesson 0 = .ok (.aload_n 0, 1) := by decide +kernel
theorem dX8_addLesson_1 : decode cX8_addLesson 1 = .ok (.iload_n 1, 1) := by decide +kernel
theorem dX8_addLesson_2 : decode cX8_addLesson 2 = .ok (.invokevirtual 111, 3) := by decide +kernel
theorem dX8_addLesson_5 : decode cX8_addLesson 5 = .ok (.astore 6, 2) := by decide +kernel
theorem dX8_addLesson_7 : decode cX8_addLesson 7 = .ok (.aload_n 0, 1) := by decide +kernel
theorem dX8_addLesson_8 : decode cX8_addLesson 8 = .ok (.iload_n 2, 1) := by decide +kernel
theorem dX8_addLesson_9 : decode cX8_addLesson 9 = .ok (.invokevirtual 115, 3) := by decide +kernel
theorem dX8_addLesson_12 : decode cX8_addLesson 12 = .ok (.astore 7, 2) := by decide +kernel
theorem dX8_addLesson_14 : decode cX8_addLesson 14 = .ok (.iload_n 3, 1) := by decide +kernel
theorem dX8_addLesson_15 : decode cX8_addLesson 15 = .ok (.iconst 0, 1) := by decide +kernel
theorem dX8_addLesson_16 : decode cX8_addLesson 16 = .ok (.iconst 3, 1) := by decide +kernel
theorem dX8_addLesson_17 : decode cX8_addLesson 17 = .ok (.invokestatic 56, 3) := by decide +kernel
theorem dX8_addLesson_20 : decode cX8_addLesson 20 = .ok (.ifCond .ne 24, 3) := by decide +kernel
theorem dX8_addLesson_23 : decode cX8_addLesson 23 = .ok (.iload 4, 2) := by decide +kernel
theorem dX8_addLesson_25 : decode cX8_addLesson 25 = .ok (.iconst 1, 1) := by decide +kernel
theorem dX8_addLesson_26 : decode cX8_addLesson 26 = .ok (.iconst 3, 1) := by decide +kernel
theorem dX8_addLesson_27 : decode cX8_addLesson 27 = .ok (.invokestatic 56, 3) := by decide +kernel
theorem dX8_addLesson_30 : decode cX8_addLesson 30 = .ok (.ifCond .ne 14, 3) := by decide +kernel
theorem dX8_addLesson_33 : decode cX8_addLesson 33 = .ok (.iload 5, 2) := by decide +kernel
theorem dX8_addLesson_35 : decode cX8_addLesson 35 = .ok (.iconst 0, 1) := by decide +kernel
theorem dX8_addLesson_36 : decode cX8_addLesson 36 = .ok (.bipush 9, 2) := by decide +kernel
theorem dX8_addLesson_38 : decode cX8_addLesson 38 = .ok (.invokestatic 56, 3) := by decide +kernel
theorem dX8_addLesson_41 : decode cX8_addLesson 41 = .ok (.ifCond .eq 13, 3) := by decide +kernel
theorem dX8_addLesson_44 : decode cX8_addLesson 44 = .ok (.new 60, 3) := by decide +kernel
theorem dX8_addLesson_47 : decode cX8_addLesson 47 = .ok (.dup, 1) := by decide +kernel
theorem dX8_addLesson_48 : decode cX8_addLesson 48 = .ok (.ldc 119, 2) := by decide +kernel
theorem dX8_addLesson_50 : decode cX8_addLesson 50 = .ok (.invokespecial 64, 3) := by decide +kernel
theorem dX8_addLesson_53 : decode cX8_addLesson 53 = .ok (.athrow, 1) := by decide +kernel
theorem dX8_addLesson_54 : decode cX8_addLesson 54 = .ok (.aload_n 0, 1) := by decide +kernel
theorem dX8_addLesson_55 : decode cX8_addLesson 55 = .ok (.getfield 19, 3) := by decide +kernel
theorem dX8_addLesson_58 : decode cX8_addLesson 58 = .ok (.getfield 121, 3) := by decide +kernel
theorem dX8_addLesson_61 : decode cX8_addLesson 61 = .ok (.invokevirtual 70, 3) := by decide +kernel
theorem dX8_addLesson_64 : decode cX8_addLesson 64 = .ok (.istore 8, 2) := by decide +kernel
theorem dX8_addLesson_66 : decode cX8_addLesson 66 = .ok (.iload 8, 2) := by decide +kernel
theorem dX8_addLesson_68 : decode cX8_addLesson 68 = .ok (.bipush 16, 2) := by decide +kernel
theorem dX8_addLesson_70 : decode cX8_addLesson 70 = .ok (.if_icmp .lt 13, 3) := by decide +kernel
theorem dX8_addLesson_73 : decode cX8_addLesson 73 = .ok (.new 74, 3) := by decide +kernel
theorem dX8_addLesson_76 : decode cX8_addLesson 76 = .ok (.dup, 1) := by decide +kernel
theorem dX8_addLesson_77 : decode cX8_addLesson 77 = .ok (.ldc 124, 2) := by decide +kernel
theorem dX8_addLesson_79 : decode cX8_addLesson 79 = .ok (.invokespecial 78, 3) := by decide +kernel
theorem dX8_addLesson_82 : decode cX8_addLesson 82 = .ok (.athrow, 1) := by decide +kernel
theorem dX8_addLesson_83 : decode cX8_addLesson 83 = .ok (.aload_n 0, 1) := by decide +kernel
theorem dX8_addLesson_84 : decode cX8_addLesson 84 = .ok (.getfield 19, 3) := by decide +kernel
theorem dX8_addLesson_87 : decode cX8_addLesson 87 = .ok (.getfield 121, 3) := by decide +kernel
theorem dX8_addLesson_90 : decode cX8_addLesson 90 = .ok (.new 126, 3) := by decide +kernel
theorem dX8_addLesson_93 : decode cX8_addLesson 93 = .ok (.dup, 1) := by decide +kernel
theorem dX8_addLesson_94 : decode cX8_addLesson 94 = .ok (.iload 8, 2) := by decide +kernel
theorem dX8_addLesson_96 : decode cX8_addLesson 96 = .ok (.aload 6, 2) := by decide +kernel
theorem dX8_addLesson_98 : decode cX8_addLesson 98 = .ok (.aload 7, 2) := by decide +kernel
theorem dX8_addLesson_100 : decode cX8_addLesson 100 = .ok (.iload_n 3, 1) := by decide +kernel
theorem dX8_addLesson_101 : decode cX8_addLesson 101 = .ok (.iload 4, 2) := by decide +kernel
theorem dX8_addLesson_103 : decode cX8_addLesson 103 = .ok (.iload 5, 2) := by decide +kernel
theorem dX8_addLesson_105 : decode cX8_addLesson 105 = .ok (.invokespecial 128, 3) := by decide +kernel
theorem dX8_addLesson_108 : decode cX8_addLesson 108 = .ok (.invokevirtual 84, 3) := by decide +kernel
theorem dX8_addLesson_111 : decode cX8_addLesson 111 = .ok (.pop, 1) := by decide +kernel
theorem dX8_addLesson_112 : decode cX8_addLesson 112 = .ok (.iload 8, 2) := by decide +kernel
theorem dX8_addLesson_114 : decode cX8_addLesson 114 = .ok (.ireturn, 1) := by decide +kernel
theorem dX8_setWish_0 : decode cX8_setWish 0 = .ok (.aload_n 0, 1) := by decide +kernel
theorem dX8_setWish_1 : decode cX8_setWish 1 = .ok (.iload_n 1, 1) := by decide +kernel
theorem dX8_setWish_2 : decode cX8_setWish 2 = .ok (.invokevirtual 115, 3) := by decide +kernel
theorem dX8_setWish_5 : decode cX8_setWish 5 = .ok (.astore 4, 2) := by decide +kernel
theorem dX8_setWish_7 : decode cX8_setWish 7 = .ok (.iload_n 2, 1) := by decide +kernel
theorem dX8_setWish_8 : decode cX8_setWish 8 = .ok (.invokestatic 131, 3) := by decide +kernel
theorem dX8_setWish_11 : decode cX8_setWish 11 = .ok (.iload_n 3, 1) := by decide +kernel
theorem dX8_setWish_12 : decode cX8_setWish 12 = .ok (.iconst 0, 1) := by decide +kernel
theorem dX8_setWish_13 : decode cX8_setWish 13 = .ok (.bipush 9, 2) := by decide +kernel
theorem dX8_setWish_15 : decode cX8_setWish 15 = .ok (.invokestatic 56, 3) := by decide +kernel
theorem dX8_setWish_18 : decode cX8_setWish 18 = .ok (.ifCond .eq 13, 3) := by decide +kernel
theorem dX8_setWish_21 : decode cX8_setWish 21 = .ok (.new 60, 3) := by decide +kernel
theorem dX8_setWish_24 : decode cX8_setWish 24 = .ok (.dup, 1) := by decide +kernel
theorem dX8_setWish_25 : decode cX8_setWish 25 = .ok (.ldc 134, 2) := by decide +kernel
theorem dX8_setWish_27 : decode cX8_setWish 27 = .ok (.invokespecial 64, 3) := by decide +kernel
theorem dX8_setWish_30 : decode cX8_setWish 30 = .ok (.athrow, 1) := by decide +kernel
theorem dX8_setWish_31 : decode cX8_setWish 31 = .ok (.aload_n 0, 1) := by decide +kernel
theorem dX8_setWish_32 : decode cX8_setWish 32 = .ok (.getfield 19, 3) := by decide +kernel
theorem dX8_setWish_35 : decode cX8_setWish 35 = .ok (.aload 4, 2) := by decide +kernel
theorem dX8_setWish_37 : decode cX8_setWish 37 = .ok (.iload_n 2, 1) := by decide +kernel
theorem dX8_setWish_38 : decode cX8_setWish 38 = .ok (.iload_n 3, 1) := by decide +kernel
theorem dX8_setWish_39 : decode cX8_setWish 39 = .ok (.invokevirtual 136, 3) := by decide +kernel
theorem dX8_setWish_42 : decode cX8_setWish 42 = .ok (.ireturn, 1) := by decide +kernel
theorem dX8_setWeight_0 : decode cX8_setWeight 0 = .ok (.iload_n 1, 1) := by decide +kernel
theorem dX8_setWeight_1 : decode cX8_setWeight 1 = .ok (.invokestatic 140, 3) := by decide +kernel
theorem dX8_setWeight_4 : decode cX8_setWeight 4 = .ok (.iload_n 2, 1) := by decide +kernel
theorem dX8_setWeight_5 : decode cX8_setWeight 5 = .ok (.iconst 0, 1) := by decide +kernel
theorem dX8_setWeight_6 : decode cX8_setWeight 6 = .ok (.bipush 9, 2) := by decide +kernel
theorem dX8_setWeight_8 : decode cX8_setWeight 8 = .ok (.invokestatic 56, 3) := by decide +kernel
theorem dX8_setWeight_11 : decode cX8_setWeight 11 = .ok (.ifCond .eq 13, 3) := by decide +kernel
theorem dX8_setWeight_14 : decode cX8_setWeight 14 = .ok (.new 60, 3) := by decide +kernel
theorem dX8_setWeight_17 : decode cX8_setWeight 17 = .ok (.dup, 1) := by decide +kernel
theorem dX8_setWeight_18 : decode cX8_setWeight 18 = .ok (.ldc 143, 2) := by decide +kernel
theorem dX8_setWeight_20 : decode cX8_setWeight 20 = .ok (.invokespecial 64, 3) := by decide +kernel
theorem dX8_setWeight_23 : decode cX8_setWeight 23 = .ok (.athrow, 1) := by decide +kernel
theorem dX8_setWeight_24 : decode cX8_setWeight 24 = .ok (.aload_n 0, 1) := by decide +kernel
theorem dX8_setWeight_25 : decode cX8_setWeight 25 = .ok (.getfield 19, 3) := by decide +kernel
theorem dX8_setWeight_28 : decode cX8_setWeight 28 = .ok (.iload_n 1, 1) := by decide +kernel
theorem dX8_setWeight_29 : decode cX8_setWeight 29 = .ok (.iload_n 2, 1) := by decide +kernel
theorem dX8_setWeight_30 : decode cX8_setWeight 30 = .ok (.invokevirtual 145, 3) := by decide +kernel
theorem dX8_setWeight_33 : decode cX8_setWeight 33 = .ok (.ireturn, 1) := by decide +kernel
theorem dX8_reason_0 : decode cX8_reason 0 = .ok (.aload_n 0, 1) := by decide +kernel
theorem dX8_reason_1 : decode cX8_reason 1 = .ok (.iload_n 1, 1) := by decide +kernel
theorem dX8_reason_2 : decode cX8_reason 2 = .ok (.invokevirtual 149, 3) := by decide +kernel
theorem dX8_reason_5 : decode cX8_reason 5 = .ok (.astore 4, 2) := by decide +kernel
theorem dX8_reason_7 : decode cX8_reason 7 = .ok (.aload_n 0, 1) := by decide +kernel
theorem dX8_reason_8 : decode cX8_reason 8 = .ok (.iload_n 2, 1) := by decide +kernel
theorem dX8_reason_9 : decode cX8_reason 9 = .ok (.iload_n 3, 1) := by decide +kernel
theorem dX8_reason_10 : decode cX8_reason 10 = .ok (.invokevirtual 153, 3) := by decide +kernel
theorem dX8_reason_13 : decode cX8_reason 13 = .ok (.astore 5, 2) := by decide +kernel
theorem dX8_reason_15 : decode cX8_reason 15 = .ok (.aload_n 0, 1) := by decide +kernel
theorem dX8_reason_16 : decode cX8_reason 16 = .ok (.getfield 19, 3) := by decide +kernel
theorem dX8_reason_19 : decode cX8_reason 19 = .ok (.aload 4, 2) := by decide +kernel
theorem dX8_reason_21 : decode cX8_reason 21 = .ok (.invokevirtual 157, 3) := by decide +kernel
theorem dX8_reason_24 : decode cX8_reason 24 = .ok (.aload 4, 2) := by decide +kernel
theorem dX8_reason_26 : decode cX8_reason 26 = .ok (.iload_n 2, 1) := by decide +kernel
theorem dX8_reason_27 : decode cX8_reason 27 = .ok (.aload 5, 2) := by decide +kernel
theorem dX8_reason_29 : decode cX8_reason 29 = .ok (.invokevirtual 161, 3) := by decide +kernel
theorem dX8_reason_32 : decode cX8_reason 32 = .ok (.istore 6, 2) := by decide +kernel
theorem dX8_reason_34 : decode cX8_reason 34 = .ok (.iconst 0, 1) := by decide +kernel
theorem dX8_reason_35 : decode cX8_reason 35 = .ok (.istore 7, 2) := by decide +kernel
theorem dX8_reason_37 : decode cX8_reason 37 = .ok (.iload 7, 2) := by decide +kernel
theorem dX8_reason_39 : decode cX8_reason 39 = .ok (.ldc 165, 2) := by decide +kernel
theorem dX8_reason_41 : decode cX8_reason 41 = .ok (.invokevirtual 167, 3) := by decide +kernel
theorem dX8_reason_44 : decode cX8_reason 44 = .ok (.if_icmp .ge 27, 3) := by decide +kernel
theorem dX8_reason_47 : decode cX8_reason 47 = .ok (.iload 6, 2) := by decide +kernel
theorem dX8_reason_49 : decode cX8_reason 49 = .ok (.iload 7, 2) := by decide +kernel
theorem dX8_reason_51 : decode cX8_reason 51 = .ok (.invokestatic 172, 3) := by decide +kernel
theorem dX8_reason_54 : decode cX8_reason 54 = .ok (.ifCond .eq 11, 3) := by decide +kernel
theorem dX8_reason_57 : decode cX8_reason 57 = .ok (.ldc 165, 2) := by decide +kernel
theorem dX8_reason_59 : decode cX8_reason 59 = .ok (.iload 7, 2) := by decide +kernel
theorem dX8_reason_61 : decode cX8_reason 61 = .ok (.invokevirtual 176, 3) := by decide +kernel
theorem dX8_reason_64 : decode cX8_reason 64 = .ok (.ireturn, 1) := by decide +kernel
theorem dX8_reason_65 : decode cX8_reason 65 = .ok (.iinc 7 1, 3) := by decide +kernel
theorem dX8_reason_68 : decode cX8_reason 68 = .ok (.goto (-31), 3) := by decide +kernel
theorem dX8_reason_71 : decode cX8_reason 71 = .ok (.bipush 45, 2) := by decide +kernel
theorem dX8_reason_73 : decode cX8_reason 73 = .ok (.ireturn, 1) := by decide +kernel
theorem dX8_reasons_0 : decode cX8_reasons 0 = .ok (.aload_n 0, 1) := by decide +kernel
theorem dX8_reasons_1 : decode cX8_reasons 1 = .ok (.iload_n 1, 1) := by decide +kernel
theorem dX8_reasons_2 : decode cX8_reasons 2 = .ok (.invokevirtual 149, 3) := by decide +kernel
theorem dX8_reasons_5 : decode cX8_reasons 5 = .ok (.astore_n 3, 1) := by decide +kernel
theorem dX8_reasons_6 : decode cX8_reasons 6 = .ok (.iload_n 2, 1) := by decide +kernel
theorem dX8_reasons_7 : decode cX8_reasons 7 = .ok (.invokestatic 131, 3) := by decide +kernel
theorem dX8_reasons_10 : decode cX8_reasons 10 = .ok (.aload_n 0, 1) := by decide +kernel
theorem dX8_reasons_11 : decode cX8_reasons 11 = .ok (.getfield 19, 3) := by decide +kernel
theorem dX8_reasons_14 : decode cX8_reasons 14 = .ok (.aload_n 3, 1) := by decide +kernel
theorem dX8_reasons_15 : decode cX8_reasons 15 = .ok (.invokevirtual 157, 3) := by decide +kernel
theorem dX8_reasons_18 : decode cX8_reasons 18 = .ok (.aload_n 0, 1) := by decide +kernel
theorem dX8_reasons_19 : decode cX8_reasons 19 = .ok (.getfield 53, 3) := by decide +kernel
theorem dX8_reasons_22 : decode cX8_reasons 22 = .ok (.iconst 0, 1) := by decide +kernel
theorem dX8_reasons_23 : decode cX8_reasons 23 = .ok (.invokestatic 180, 3) := by decide +kernel
theorem dX8_reasons_26 : decode cX8_reasons 26 = .ok (.iconst 0, 1) := by decide +kernel
theorem dX8_reasons_27 : decode cX8_reasons 27 = .ok (.istore 4, 2) := by decide +kernel
theorem dX8_reasons_29 : decode cX8_reasons 29 = .ok (.iload 4, 2) := by decide +kernel
theorem dX8_reasons_31 : decode cX8_reasons 31 = .ok (.aload_n 0, 1) := by decide +kernel
theorem dX8_reasons_32 : decode cX8_reasons 32 = .ok (.getfield 19, 3) := by decide +kernel
theorem dX8_reasons_35 : decode cX8_reasons 35 = .ok (.getfield 67, 3) := by decide +kernel
theorem dX8_reasons_38 : decode cX8_reasons 38 = .ok (.invokevirtual 70, 3) := by decide +kernel
theorem dX8_reasons_41 : decode cX8_reasons 41 = .ok (.if_icmp .ge 66, 3) := by decide +kernel
theorem dX8_reasons_44 : decode cX8_reasons 44 = .ok (.iload 4, 2) := by decide +kernel
theorem dX8_reasons_46 : decode cX8_reasons 46 = .ok (.aload_n 0, 1) := by decide +kernel
theorem dX8_reasons_47 : decode cX8_reasons 47 = .ok (.getfield 53, 3) := by decide +kernel
theorem dX8_reasons_50 : decode cX8_reasons 50 = .ok (.arraylength, 1) := by decide +kernel
theorem dX8_reasons_51 : decode cX8_reasons 51 = .ok (.if_icmp .ge 56, 3) := by decide +kernel
theorem dX8_reasons_54 : decode cX8_reasons 54 = .ok (.aload_n 0, 1) := by decide +kernel
theorem dX8_reasons_55 : decode cX8_reasons 55 = .ok (.getfield 53, 3) := by decide +kernel
theorem dX8_reasons_58 : decode cX8_reasons 58 = .ok (.iload 4, 2) := by decide +kernel
theorem dX8_reasons_60 : decode cX8_reasons 60 = .ok (.aload_n 3, 1) := by decide +kernel
theorem dX8_reasons_61 : decode cX8_reasons 61 = .ok (.iload_n 2, 1) := by decide +kernel
theorem dX8_reasons_62 : decode cX8_reasons 62 = .ok (.aload_n 0, 1) := by decide +kernel
theorem dX8_reasons_63 : decode cX8_reasons 63 = .ok (.getfield 19, 3) := by decide +kernel
theorem dX8_reasons_66 : decode cX8_reasons 66 = .ok (.getfield 67, 3) := by decide +kernel
theorem dX8_reasons_69 : decode cX8_reasons 69 = .ok (.iload 4, 2) := by decide +kernel
theorem dX8_reasons_71 : decode cX8_reasons 71 = .ok (.invokevirtual 186, 3) := by decide +kernel
theorem dX8_reasons_74 : decode cX8_reasons 74 = .ok (.checkcast 79, 3) := by decide +kernel
theorem dX8_reasons_77 : decode cX8_reasons 77 = .ok (.invokevirtual 161, 3) := by decide +kernel
theorem dX8_reasons_80 : decode cX8_reasons 80 = .ok (.iastore, 1) := by decide +kernel
theorem dX8_reasons_81 : decode cX8_reasons 81 = .ok (.aload_n 0, 1) := by decide +kernel
theorem dX8_reasons_82 : decode cX8_reasons 82 = .ok (.getfield 53, 3) := by decide +kernel
theorem dX8_reasons_85 : decode cX8_reasons 85 = .ok (.iload 4, 2) := by decide +kernel
theorem dX8_reasons_87 : decode cX8_reasons 87 = .ok (.iaload, 1) := by decide +kernel
theorem dX8_reasons_88 : decode cX8_reasons 88 = .ok (.ifCond .ne 13, 3) := by decide +kernel
theorem dX8_reasons_91 : decode cX8_reasons 91 = .ok (.new 190, 3) := by decide +kernel
theorem dX8_reasons_94 : decode cX8_reasons 94 = .ok (.dup, 1) := by decide +kernel
theorem dX8_reasons_95 : decode cX8_reasons 95 = .ok (.ldc 192, 2) := by decide +kernel
theorem dX8_reasons_97 : decode cX8_reasons 97 = .ok (.invokespecial 194, 3) := by decide +kernel
theorem dX8_reasons_100 : decode cX8_reasons 100 = .ok (.athrow, 1) := by decide +kernel
theorem dX8_reasons_101 : decode cX8_reasons 101 = .ok (.iinc 4 1, 3) := by decide +kernel
theorem dX8_reasons_104 : decode cX8_reasons 104 = .ok (.goto (-75), 3) := by decide +kernel
theorem dX8_reasons_107 : decode cX8_reasons 107 = .ok (.aload_n 0, 1) := by decide +kernel
theorem dX8_reasons_108 : decode cX8_reasons 108 = .ok (.invokevirtual 195, 3) := by decide +kernel
theorem dX8_reasons_111 : decode cX8_reasons 111 = .ok (.ireturn, 1) := by decide +kernel
theorem dX8_leastReasons_0 : decode cX8_leastReasons 0 = .ok (.aload_n 0, 1) := by decide +kernel
theorem dX8_leastReasons_1 : decode cX8_leastReasons 1 = .ok (.getfield 19, 3) := by decide +kernel
theorem dX8_leastReasons_4 : decode cX8_leastReasons 4 = .ok (.getfield 67, 3) := by decide +kernel
theorem dX8_leastReasons_7 : decode cX8_leastReasons 7 = .ok (.invokevirtual 198, 3) := by decide +kernel
theorem dX8_leastReasons_10 : decode cX8_leastReasons 10 = .ok (.ifCond .eq 5, 3) := by decide +kernel
theorem dX8_leastReasons_13 : decode cX8_leastReasons 13 = .ok (.iconst 0, 1) := by decide +kernel
theorem dX8_leastReasons_14 : decode cX8_leastReasons 14 = .ok (.ireturn, 1) := by decide +kernel
theorem dX8_leastReasons_15 : decode cX8_leastReasons 15 = .ok (.sipush 1023, 3) := by decide +kernel
theorem dX8_leastReasons_18 : decode cX8_leastReasons 18 = .ok (.istore_n 1, 1) := by decide +kernel
theorem dX8_leastReasons_19 : decode cX8_leastReasons 19 = .ok (.iconst 1, 1) := by decide +kernel
theorem dX8_leastReasons_20 : decode cX8_leastReasons 20 = .ok (.istore_n 2, 1) := by decide +kernel
theorem dX8_leastReasons_21 : decode cX8_leastReasons 21 = .ok (.iload_n 2, 1) := by decide +kernel
theorem dX8_leastReasons_22 : decode cX8_leastReasons 22 = .ok (.sipush 1023, 3) := by decide +kernel
theorem dX8_leastReasons_25 : decode cX8_leastReasons 25 = .ok (.if_icmp .ge 30, 3) := by decide +kernel
theorem dX8_leastReasons_28 : decode cX8_leastReasons 28 = .ok (.iload_n 2, 1) := by decide +kernel
theorem dX8_leastReasons_29 : decode cX8_leastReasons 29 = .ok (.invokestatic 202, 3) := by decide +kernel
theorem dX8_leastReasons_32 : decode cX8_leastReasons 32 = .ok (.iload_n 1, 1) := by decide +kernel
theorem dX8_leastReasons_33 : decode cX8_leastReasons 33 = .ok (.invokestatic 202, 3) := by decide +kernel
theorem dX8_leastReasons_36 : decode cX8_leastReasons 36 = .ok (.if_icmp .ge 13, 3) := by decide +kernel
theorem dX8_leastReasons_39 : decode cX8_leastReasons 39 = .ok (.aload_n 0, 1) := by decide +kernel
theorem dX8_leastReasons_40 : decode cX8_leastReasons 40 = .ok (.iload_n 2, 1) := by decide +kernel
theorem dX8_leastReasons_41 : decode cX8_leastReasons 41 = .ok (.invokevirtual 207, 3) := by decide +kernel
theorem dX8_leastReasons_44 : decode cX8_leastReasons 44 = .ok (.ifCond .eq 5, 3) := by decide +kernel
theorem dX8_leastReasons_47 : decode cX8_leastReasons 47 = .ok (.iload_n 2, 1) := by decide +kernel
theorem dX8_leastReasons_48 : decode cX8_leastReasons 48 = .ok (.istore_n 1, 1) := by decide +kernel
theorem dX8_leastReasons_49 : decode cX8_leastReasons 49 = .ok (.iinc 2 1, 3) := by decide +kernel
theorem dX8_leastReasons_52 : decode cX8_leastReasons 52 = .ok (.goto (-31), 3) := by decide +kernel
theorem dX8_leastReasons_55 : decode cX8_leastReasons 55 = .ok (.iload_n 1, 1) := by decide +kernel
theorem dX8_leastReasons_56 : decode cX8_leastReasons 56 = .ok (.ireturn, 1) := by decide +kernel
theorem dX8_barEachRoom_0 : decode cX8_barEachRoom 0 = .ok (.iconst 0, 1) := by decide +kernel
theorem dX8_barEachRoom_1 : decode cX8_barEachRoom 1 = .ok (.istore_n 2, 1) := by decide +kernel
theorem dX8_barEachRoom_2 : decode cX8_barEachRoom 2 = .ok (.iload_n 2, 1) := by decide +kernel
theorem dX8_barEachRoom_3 : decode cX8_barEachRoom 3 = .ok (.aload_n 0, 1) := by decide +kernel
theorem dX8_barEachRoom_4 : decode cX8_barEachRoom 4 = .ok (.getfield 19, 3) := by decide +kernel
theorem dX8_barEachRoom_7 : decode cX8_barEachRoom 7 = .ok (.getfield 67, 3) := by decide +kernel
theorem dX8_barEachRoom_10 : decode cX8_barEachRoom 10 = .ok (.invokevirtual 70, 3) := by decide +kernel
theorem dX8_barEachRoom_13 : decode cX8_barEachRoom 13 = .ok (.if_icmp .ge 31, 3) := by decide +kernel
theorem dX8_barEachRoom_16 : decode cX8_barEachRoom 16 = .ok (.iload_n 2, 1) := by decide +kernel
theorem dX8_barEachRoom_17 : decode cX8_barEachRoom 17 = .ok (.aload_n 0, 1) := by decide +kernel
theorem dX8_barEachRoom_18 : decode cX8_barEachRoom 18 = .ok (.getfield 53, 3) := by decide +kernel
theorem dX8_barEachRoom_21 : decode cX8_barEachRoom 21 = .ok (.arraylength, 1) := by decide +kernel
theorem dX8_barEachRoom_22 : decode cX8_barEachRoom 22 = .ok (.if_icmp .ge 22, 3) := by decide +kernel
theorem dX8_barEachRoom_25 : decode cX8_barEachRoom 25 = .ok (.aload_n 0, 1) := by decide +kernel
theorem dX8_barEachRoom_26 : decode cX8_barEachRoom 26 = .ok (.getfield 53, 3) := by decide +kernel
theorem dX8_barEachRoom_29 : decode cX8_barEachRoom 29 = .ok (.iload_n 2, 1) := by decide +kernel
theorem dX8_barEachRoom_30 : decode cX8_barEachRoom 30 = .ok (.iaload, 1) := by decide +kernel
theorem dX8_barEachRoom_31 : decode cX8_barEachRoom 31 = .ok (.iload_n 1, 1) := by decide +kernel
theorem dX8_barEachRoom_32 : decode cX8_barEachRoom 32 = .ok (.iand, 1) := by decide +kernel
theorem dX8_barEachRoom_33 : decode cX8_barEachRoom 33 = .ok (.ifCond .ne 5, 3) := by decide +kernel
theorem dX8_barEachRoom_36 : decode cX8_barEachRoom 36 = .ok (.iconst 0, 1) := by decide +kernel
theorem dX8_barEachRoom_37 : decode cX8_barEachRoom 37 = .ok (.ireturn, 1) := by decide +kernel
theorem dX8_barEachRoom_38 : decode cX8_barEachRoom 38 = .ok (.iinc 2 1, 3) := by decide +kernel
theorem dX8_barEachRoom_41 : decode cX8_barEachRoom 41 = .ok (.goto (-39), 3) := by decide +kernel
theorem dX8_barEachRoom_44 : decode cX8_barEachRoom 44 = .ok (.iconst 1, 1) := by decide +kernel
theorem dX8_barEachRoom_45 : decode cX8_barEachRoom 45 = .ok (.ireturn, 1) := by decide +kernel
theorem dX8_place_0 : decode cX8_place 0 = .ok (.aload_n 0, 1) := by decide +kernel
theorem dX8_place_1 : decode cX8_place 1 = .ok (.iload_n 1, 1) := by decide +kernel
theorem dX8_place_2 : decode cX8_place 2 = .ok (.invokevirtual 149, 3) := by decide +kernel
theorem dX8_place_5 : decode cX8_place 5 = .ok (.astore 4, 2) := by decide +kernel
theorem dX8_place_7 : decode cX8_place 7 = .ok (.aload_n 0, 1) := by decide +kernel
theorem dX8_place_8 : decode cX8_place 8 = .ok (.iload_n 2, 1) := by decide +kernel
theorem dX8_place_9 : decode cX8_place 9 = .ok (.iload_n 3, 1) := by decide +kernel
theorem dX8_place_10 : decode cX8_place 10 = .ok (.invokevirtual 153, 3) := by decide +kernel
theorem dX8_place_13 : decode cX8_place 13 = .ok (.astore 5, 2) := by decide +kernel
theorem dX8_place_15 : decode cX8_place 15 = .ok (.aload_n 0, 1) := by decide +kernel
theorem dX8_place_16 : decode cX8_place 16 = .ok (.aload 4, 2) := by decide +kernel
theorem dX8_place_18 : decode cX8_place 18 = .ok (.invokevirtual 211, 3) := by decide +kernel
theorem dX8_place_21 : decode cX8_place 21 = .ok (.aload_n 0, 1) := by decide +kernel
theorem dX8_place_22 : decode cX8_place 22 = .ok (.aload 4, 2) := by decide +kernel
theorem dX8_place_24 : decode cX8_place 24 = .ok (.iload_n 2, 1) := by decide +kernel
theorem dX8_place_25 : decode cX8_place 25 = .ok (.aload 5, 2) := by decide +kernel
theorem dX8_place_27 : decode cX8_place 27 = .ok (.invokevirtual 214, 3) := by decide +kernel
theorem dX8_place_30 : decode cX8_place 30 = .ok (.aload_n 0, 1) := by decide +kernel
theorem dX8_place_31 : decode cX8_place 31 = .ok (.getfield 19, 3) := by decide +kernel
theorem dX8_place_34 : decode cX8_place 34 = .ok (.aload 4, 2) := by decide +kernel
theorem dX8_place_36 : decode cX8_place 36 = .ok (.iload_n 2, 1) := by decide +kernel
theorem dX8_place_37 : decode cX8_place 37 = .ok (.aload 5, 2) := by decide +kernel
theorem dX8_place_39 : decode cX8_place 39 = .ok (.invokevirtual 218, 3) := by decide +kernel
theorem dX8_place_42 : decode cX8_place 42 = .ok (.aload_n 0, 1) := by decide +kernel
theorem dX8_place_43 : decode cX8_place 43 = .ok (.getfield 19, 3) := by decide +kernel
theorem dX8_place_46 : decode cX8_place 46 = .ok (.invokevirtual 221, 3) := by decide +kernel
theorem dX8_place_49 : decode cX8_place 49 = .ok (.ireturn, 1) := by decide +kernel
theorem dX8_remove_0 : decode cX8_remove 0 = .ok (.aload_n 0, 1) := by decide +kernel
theorem dX8_remove_1 : decode cX8_remove 1 = .ok (.iload_n 1, 1) := by decide +kernel
theorem dX8_remove_2 : decode cX8_remove 2 = .ok (.invokevirtual 149, 3) := by decide +kernel
theorem dX8_remove_5 : decode cX8_remove 5 = .ok (.astore_n 2, 1) := by decide +kernel
theorem dX8_remove_6 : decode cX8_remove 6 = .ok (.aload_n 2, 1) := by decide +kernel
theorem dX8_remove_7 : decode cX8_remove 7 = .ok (.invokestatic 224, 3) := by decide +kernel
theorem dX8_remove_10 : decode cX8_remove 10 = .ok (.aload_n 0, 1) := by decide +kernel
theorem dX8_remove_11 : decode cX8_remove 11 = .ok (.aload_n 2, 1) := by decide +kernel
theorem dX8_remove_12 : decode cX8_remove 12 = .ok (.invokevirtual 211, 3) := by decide +kernel
theorem dX8_remove_15 : decode cX8_remove 15 = .ok (.aload_n 0, 1) := by decide +kernel
theorem dX8_remove_16 : decode cX8_remove 16 = .ok (.getfield 19, 3) := by decide +kernel
theorem dX8_remove_19 : decode cX8_remove 19 = .ok (.aload_n 2, 1) := by decide +kernel
theorem dX8_remove_20 : decode cX8_remove 20 = .ok (.invokevirtual 227, 3) := by decide +kernel
theorem dX8_remove_23 : decode cX8_remove 23 = .ok (.aload_n 0, 1) := by decide +kernel
theorem dX8_remove_24 : decode cX8_remove 24 = .ok (.getfield 19, 3) := by decide +kernel
theorem dX8_remove_27 : decode cX8_remove 27 = .ok (.invokevirtual 221, 3) := by decide +kernel
theorem dX8_remove_30 : decode cX8_remove 30 = .ok (.ireturn, 1) := by decide +kernel
theorem dX8_lock_0 : decode cX8_lock 0 = .ok (.aload_n 0, 1) := by decide +kernel
theorem dX8_lock_1 : decode cX8_lock 1 = .ok (.iload_n 1, 1) := by decide +kernel
theorem dX8_lock_2 : decode cX8_lock 2 = .ok (.invokevirtual 149, 3) := by decide +kernel
theorem dX8_lock_5 : decode cX8_lock 5 = .ok (.astore_n 2, 1) := by decide +kernel
theorem dX8_lock_6 : decode cX8_lock 6 = .ok (.aload_n 2, 1) := by decide +kernel
theorem dX8_lock_7 : decode cX8_lock 7 = .ok (.invokestatic 224, 3) := by decide +kernel
theorem dX8_lock_10 : decode cX8_lock 10 = .ok (.aload_n 0, 1) := by decide +kernel
theorem dX8_lock_11 : decode cX8_lock 11 = .ok (.aload_n 2, 1) := by decide +kernel
theorem dX8_lock_12 : decode cX8_lock 12 = .ok (.invokevirtual 211, 3) := by decide +kernel
theorem dX8_lock_15 : decode cX8_lock 15 = .ok (.aload_n 2, 1) := by decide +kernel
theorem dX8_lock_16 : decode cX8_lock 16 = .ok (.iconst 1, 1) := by decide +kernel
theorem dX8_lock_17 : decode cX8_lock 17 = .ok (.putfield 230, 3) := by decide +kernel
theorem dX8_lock_20 : decode cX8_lock 20 = .ok (.aload_n 0, 1) := by decide +kernel
theorem dX8_lock_21 : decode cX8_lock 21 = .ok (.invokevirtual 234, 3) := by decide +kernel
theorem dX8_lock_24 : decode cX8_lock 24 = .ok (.ireturn, 1) := by decide +kernel
theorem dX8_unlock_0 : decode cX8_unlock 0 = .ok (.aload_n 0, 1) := by decide +kernel
theorem dX8_unlock_1 : decode cX8_unlock 1 = .ok (.iload_n 1, 1) := by decide +kernel
theorem dX8_unlock_2 : decode cX8_unlock 2 = .ok (.invokevirtual 149, 3) := by decide +kernel
theorem dX8_unlock_5 : decode cX8_unlock 5 = .ok (.astore_n 2, 1) := by decide +kernel
theorem dX8_unlock_6 : decode cX8_unlock 6 = .ok (.aload_n 2, 1) := by decide +kernel
theorem dX8_unlock_7 : decode cX8_unlock 7 = .ok (.getfield 230, 3) := by decide +kernel
theorem dX8_unlock_10 : decode cX8_unlock 10 = .ok (.ifCond .ne 13, 3) := by decide +kernel
theorem dX8_unlock_13 : decode cX8_unlock 13 = .ok (.new 74, 3) := by decide +kernel
theorem dX8_unlock_16 : decode cX8_unlock 16 = .ok (.dup, 1) := by decide +kernel
theorem dX8_unlock_17 : decode cX8_unlock 17 = .ok (.ldc 237, 2) := by decide +kernel
theorem dX8_unlock_19 : decode cX8_unlock 19 = .ok (.invokespecial 78, 3) := by decide +kernel
theorem dX8_unlock_22 : decode cX8_unlock 22 = .ok (.athrow, 1) := by decide +kernel
theorem dX8_unlock_23 : decode cX8_unlock 23 = .ok (.aload_n 2, 1) := by decide +kernel
theorem dX8_unlock_24 : decode cX8_unlock 24 = .ok (.iconst 0, 1) := by decide +kernel
theorem dX8_unlock_25 : decode cX8_unlock 25 = .ok (.putfield 230, 3) := by decide +kernel
theorem dX8_unlock_28 : decode cX8_unlock 28 = .ok (.aload_n 0, 1) := by decide +kernel
theorem dX8_unlock_29 : decode cX8_unlock 29 = .ok (.invokevirtual 234, 3) := by decide +kernel
theorem dX8_unlock_32 : decode cX8_unlock 32 = .ok (.ireturn, 1) := by decide +kernel
theorem dX8_lockedLessons_0 : decode cX8_lockedLessons 0 = .ok (.iconst 0, 1) := by decide +kernel
theorem dX8_lockedLessons_1 : decode cX8_lockedLessons 1 = .ok (.istore_n 1, 1) := by decide +kernel
theorem dX8_lockedLessons_2 : decode cX8_lockedLessons 2 = .ok (.iconst 0, 1) := by decide +kernel
theorem dX8_lockedLessons_3 : decode cX8_lockedLessons 3 = .ok (.istore_n 2, 1) := by decide +kernel
theorem dX8_lockedLessons_4 : decode cX8_lockedLessons 4 = .ok (.iload_n 2, 1) := by decide +kernel
theorem dX8_lockedLessons_5 : decode cX8_lockedLessons 5 = .ok (.aload_n 0, 1) := by decide +kernel
theorem dX8_lockedLessons_6 : decode cX8_lockedLessons 6 = .ok (.getfield 19, 3) := by decide +kernel
theorem dX8_lockedLessons_9 : decode cX8_lockedLessons 9 = .ok (.getfield 121, 3) := by decide +kernel
theorem dX8_lockedLessons_12 : decode cX8_lockedLessons 12 = .ok (.invokevirtual 70, 3) := by decide +kernel
theorem dX8_lockedLessons_15 : decode cX8_lockedLessons 15 = .ok (.if_icmp .ge 32, 3) := by decide +kernel
theorem dX8_lockedLessons_18 : decode cX8_lockedLessons 18 = .ok (.aload_n 0, 1) := by decide +kernel
theorem dX8_lockedLessons_19 : decode cX8_lockedLessons 19 = .ok (.getfield 19, 3) := by decide +kernel
theorem dX8_lockedLessons_22 : decode cX8_lockedLessons 22 = .ok (.getfield 121, 3) := by decide +kernel
theorem dX8_lockedLessons_25 : decode cX8_lockedLessons 25 = .ok (.iload_n 2, 1) := by decide +kernel
theorem dX8_lockedLessons_26 : decode cX8_lockedLessons 26 = .ok (.invokevirtual 186, 3) := by decide +kernel
theorem dX8_lockedLessons_29 : decode cX8_lockedLessons 29 = .ok (.checkcast 126, 3) := by decide +kernel
theorem dX8_lockedLessons_32 : decode cX8_lockedLessons 32 = .ok (.getfield 230, 3) := by decide +kernel
theorem dX8_lockedLessons_35 : decode cX8_lockedLessons 35 = .ok (.ifCond .eq 6, 3) := by decide +kernel
theorem dX8_lockedLessons_38 : decode cX8_lockedLessons 38 = .ok (.iinc 1 1, 3) := by decide +kernel
theorem dX8_lockedLessons_41 : decode cX8_lockedLessons 41 = .ok (.iinc 2 1, 3) := by decide +kernel
theorem dX8_lockedLessons_44 : decode cX8_lockedLessons 44 = .ok (.goto (-40), 3) := by decide +kernel
theorem dX8_lockedLessons_47 : decode cX8_lockedLessons 47 = .ok (.iload_n 1, 1) := by decide +kernel
theorem dX8_lockedLessons_48 : decode cX8_lockedLessons 48 = .ok (.ireturn, 1) := by decide +kernel
theorem dX8_isLocked_0 : decode cX8_isLocked 0 = .ok (.aload_n 0, 1) := by decide +kernel
theorem dX8_isLocked_1 : decode cX8_isLocked 1 = .ok (.iload_n 1, 1) := by decide +kernel
theorem dX8_isLocked_2 : decode cX8_isLocked 2 = .ok (.invokevirtual 149, 3) := by decide +kernel
theorem dX8_isLocked_5 : decode cX8_isLocked 5 = .ok (.getfield 230, 3) := by decide +kernel
theorem dX8_isLocked_8 : decode cX8_isLocked 8 = .ok (.ireturn, 1) := by decide +kernel
theorem dX8_placeOf_0 : decode cX8_placeOf 0 = .ok (.aload_n 0, 1) := by decide +kernel
theorem dX8_placeOf_1 : decode cX8_placeOf 1 = .ok (.iload_n 1, 1) := by decide +kernel
theorem dX8_placeOf_2 : decode cX8_placeOf 2 = .ok (.invokevirtual 149, 3) := by decide +kernel
theorem dX8_placeOf_5 : decode cX8_placeOf 5 = .ok (.invokevirtual 239, 3) := by decide +kernel
theorem dX8_placeOf_8 : decode cX8_placeOf 8 = .ok (.istore_n 2, 1) := by decide +kernel
theorem dX8_placeOf_9 : decode cX8_placeOf 9 = .ok (.iload_n 2, 1) := by decide +kernel
theorem dX8_placeOf_10 : decode cX8_placeOf 10 = .ok (.iconst (-1), 1) := by decide +kernel
theorem dX8_placeOf_11 : decode cX8_placeOf 11 = .ok (.if_icmp .ne 13, 3) := by decide +kernel
theorem dX8_placeOf_14 : decode cX8_placeOf 14 = .ok (.new 190, 3) := by decide +kernel
theorem dX8_placeOf_17 : decode cX8_placeOf 17 = .ok (.dup, 1) := by decide +kernel
theorem dX8_placeOf_18 : decode cX8_placeOf 18 = .ok (.ldc 242, 2) := by decide +kernel
theorem dX8_placeOf_20 : decode cX8_placeOf 20 = .ok (.invokespecial 194, 3) := by decide +kernel
theorem dX8_placeOf_23 : decode cX8_placeOf 23 = .ok (.athrow, 1) := by decide +kernel
theorem dX8_placeOf_24 : decode cX8_placeOf 24 = .ok (.iload_n 2, 1) := by decide +kernel
theorem dX8_placeOf_25 : decode cX8_placeOf 25 = .ok (.ireturn, 1) := by decide +kernel
theorem dX8_groupAt_0 : decode cX8_groupAt 0 = .ok (.aload_n 0, 1) := by decide +kernel
theorem dX8_groupAt_1 : decode cX8_groupAt 1 = .ok (.iload_n 1, 1) := by decide +kernel
theorem dX8_groupAt_2 : decode cX8_groupAt 2 = .ok (.invokevirtual 111, 3) := by decide +kernel
theorem dX8_groupAt_5 : decode cX8_groupAt 5 = .ok (.astore_n 3, 1) := by decide +kernel
theorem dX8_groupAt_6 : decode cX8_groupAt 6 = .ok (.iload_n 2, 1) := by decide +kernel
theorem dX8_groupAt_7 : decode cX8_groupAt 7 = .ok (.invokestatic 131, 3) := by decide +kernel
theorem dX8_groupAt_10 : decode cX8_groupAt 10 = .ok (.iconst 0, 1) := by decide +kernel
theorem dX8_groupAt_11 : decode cX8_groupAt 11 = .ok (.istore 4, 2) := by decide +kernel
theorem dX8_groupAt_13 : decode cX8_groupAt 13 = .ok (.iload 4, 2) := by decide +kernel
theorem dX8_groupAt_15 : decode cX8_groupAt 15 = .ok (.aload_n 0, 1) := by decide +kernel
theorem dX8_groupAt_16 : decode cX8_groupAt 16 = .ok (.getfield 19, 3) := by decide +kernel
theorem dX8_groupAt_19 : decode cX8_groupAt 19 = .ok (.getfield 121, 3) := by decide +kernel
theorem dX8_groupAt_22 : decode cX8_groupAt 22 = .ok (.invokevirtual 70, 3) := by decide +kernel
theorem dX8_groupAt_25 : decode cX8_groupAt 25 = .ok (.if_icmp .ge 53, 3) := by decide +kernel
theorem dX8_groupAt_28 : decode cX8_groupAt 28 = .ok (.aload_n 0, 1) := by decide +kernel
theorem dX8_groupAt_29 : decode cX8_groupAt 29 = .ok (.getfield 19, 3) := by decide +kernel
theorem dX8_groupAt_32 : decode cX8_groupAt 32 = .ok (.getfield 121, 3) := by decide +kernel
theorem dX8_groupAt_35 : decode cX8_groupAt 35 = .ok (.iload 4, 2) := by decide +kernel
theorem dX8_groupAt_37 : decode cX8_groupAt 37 = .ok (.invokevirtual 186, 3) := by decide +kernel
theorem dX8_groupAt_40 : decode cX8_groupAt 40 = .ok (.checkcast 126, 3) := by decide +kernel
theorem dX8_groupAt_43 : decode cX8_groupAt 43 = .ok (.astore 5, 2) := by decide +kernel
theorem dX8_groupAt_45 : decode cX8_groupAt 45 = .ok (.aload 5, 2) := by decide +kernel
theorem dX8_groupAt_47 : decode cX8_groupAt 47 = .ok (.getfield 244, 3) := by decide +kernel
theorem dX8_groupAt_50 : decode cX8_groupAt 50 = .ok (.aload_n 3, 1) := by decide +kernel
theorem dX8_groupAt_51 : decode cX8_groupAt 51 = .ok (.if_acmp .ne 21, 3) := by decide +kernel
theorem dX8_groupAt_54 : decode cX8_groupAt 54 = .ok (.aload 5, 2) := by decide +kernel
theorem dX8_groupAt_56 : decode cX8_groupAt 56 = .ok (.invokevirtual 248, 3) := by decide +kernel
theorem dX8_groupAt_59 : decode cX8_groupAt 59 = .ok (.iload_n 2, 1) := by decide +kernel
theorem dX8_groupAt_60 : decode cX8_groupAt 60 = .ok (.invokestatic 172, 3) := by decide +kernel
theorem dX8_groupAt_63 : decode cX8_groupAt 63 = .ok (.ifCond .eq 9, 3) := by decide +kernel
theorem dX8_groupAt_66 : decode cX8_groupAt 66 = .ok (.aload 5, 2) := by decide +kernel
theorem dX8_groupAt_68 : decode cX8_groupAt 68 = .ok (.getfield 251, 3) := by decide +kernel
theorem dX8_groupAt_71 : decode cX8_groupAt 71 = .ok (.ireturn, 1) := by decide +kernel
theorem dX8_groupAt_72 : decode cX8_groupAt 72 = .ok (.iinc 4 1, 3) := by decide +kernel
theorem dX8_groupAt_75 : decode cX8_groupAt 75 = .ok (.goto (-62), 3) := by decide +kernel
theorem dX8_groupAt_78 : decode cX8_groupAt 78 = .ok (.new 190, 3) := by decide +kernel
theorem dX8_groupAt_81 : decode cX8_groupAt 81 = .ok (.dup, 1) := by decide +kernel
theorem dX8_groupAt_82 : decode cX8_groupAt 82 = .ok (.ldc 255, 2) := by decide +kernel
theorem dX8_groupAt_84 : decode cX8_groupAt 84 = .ok (.invokespecial 194, 3) := by decide +kernel
theorem dX8_groupAt_87 : decode cX8_groupAt 87 = .ok (.athrow, 1) := by decide +kernel
theorem dX8_teacherAt_0 : decode cX8_teacherAt 0 = .ok (.aload_n 0, 1) := by decide +kernel
theorem dX8_teacherAt_1 : decode cX8_teacherAt 1 = .ok (.iload_n 1, 1) := by decide +kernel
theorem dX8_teacherAt_2 : decode cX8_teacherAt 2 = .ok (.invokevirtual 115, 3) := by decide +kernel
theorem dX8_teacherAt_5 : decode cX8_teacherAt 5 = .ok (.astore_n 3, 1) := by decide +kernel
theorem dX8_teacherAt_6 : decode cX8_teacherAt 6 = .ok (.iload_n 2, 1) := by decide +kernel
theorem dX8_teacherAt_7 : decode cX8_teacherAt 7 = .ok (.invokestatic 131, 3) := by decide +kernel
theorem dX8_teacherAt_10 : decode cX8_teacherAt 10 = .ok (.iconst 0, 1) := by decide +kernel
theorem dX8_teacherAt_11 : decode cX8_teacherAt 11 = .ok (.istore 4, 2) := by decide +kernel
theorem dX8_teacherAt_13 : decode cX8_teacherAt 13 = .ok (.iload 4, 2) := by decide +kernel
theorem dX8_teacherAt_15 : decode cX8_teacherAt 15 = .ok (.aload_n 0, 1) := by decide +kernel
theorem dX8_teacherAt_16 : decode cX8_teacherAt 16 = .ok (.getfield 19, 3) := by decide +kernel
theorem dX8_teacherAt_19 : decode cX8_teacherAt 19 = .ok (.getfield 121, 3) := by decide +kernel
theorem dX8_teacherAt_22 : decode cX8_teacherAt 22 = .ok (.invokevirtual 70, 3) := by decide +kernel
theorem dX8_teacherAt_25 : decode cX8_teacherAt 25 = .ok (.if_icmp .ge 53, 3) := by decide +kernel
theorem dX8_teacherAt_28 : decode cX8_teacherAt 28 = .ok (.aload_n 0, 1) := by decide +kernel
theorem dX8_teacherAt_29 : decode cX8_teacherAt 29 = .ok (.getfield 19, 3) := by decide +kernel
theorem dX8_teacherAt_32 : decode cX8_teacherAt 32 = .ok (.getfield 121, 3) := by decide +kernel
theorem dX8_teacherAt_35 : decode cX8_teacherAt 35 = .ok (.iload 4, 2) := by decide +kernel
theorem dX8_teacherAt_37 : decode cX8_teacherAt 37 = .ok (.invokevirtual 186, 3) := by decide +kernel
theorem dX8_teacherAt_40 : decode cX8_teacherAt 40 = .ok (.checkcast 126, 3) := by decide +kernel
theorem dX8_teacherAt_43 : decode cX8_teacherAt 43 = .ok (.astore 5, 2) := by decide +kernel
theorem dX8_teacherAt_45 : decode cX8_teacherAt 45 = .ok (.aload 5, 2) := by decide +kernel
theorem dX8_teacherAt_47 : decode cX8_teacherAt 47 = .ok (.getfield 257, 3) := by decide +kernel
theorem dX8_teacherAt_50 : decode cX8_teacherAt 50 = .ok (.aload_n 3, 1) := by decide +kernel
theorem dX8_teacherAt_51 : decode cX8_teacherAt 51 = .ok (.if_acmp .ne 21, 3) := by decide +kernel
theorem dX8_teacherAt_54 : decode cX8_teacherAt 54 = .ok (.aload 5, 2) := by decide +kernel
theorem dX8_teacherAt_56 : decode cX8_teacherAt 56 = .ok (.invokevirtual 248, 3) := by decide +kernel
theorem dX8_teacherAt_59 : decode cX8_teacherAt 59 = .ok (.iload_n 2, 1) := by decide +kernel
theorem dX8_teacherAt_60 : decode cX8_teacherAt 60 = .ok (.invokestatic 172, 3) := by decide +kernel
theorem dX8_teacherAt_63 : decode cX8_teacherAt 63 = .ok (.ifCond .eq 9, 3) := by decide +kernel
theorem dX8_teacherAt_66 : decode cX8_teacherAt 66 = .ok (.aload 5, 2) := by decide +kernel
theorem dX8_teacherAt_68 : decode cX8_teacherAt 68 = .ok (.getfield 251, 3) := by decide +kernel
theorem dX8_teacherAt_71 : decode cX8_teacherAt 71 = .ok (.ireturn, 1) := by decide +kernel
theorem dX8_teacherAt_72 : decode cX8_teacherAt 72 = .ok (.iinc 4 1, 3) := by decide +kernel
theorem dX8_teacherAt_75 : decode cX8_teacherAt 75 = .ok (.goto (-62), 3) := by decide +kernel
theorem dX8_teacherAt_78 : decode cX8_teacherAt 78 = .ok (.new 190, 3) := by decide +kernel
theorem dX8_teacherAt_81 : decode cX8_teacherAt 81 = .ok (.dup, 1) := by decide +kernel
theorem dX8_teacherAt_82 : decode cX8_teacherAt 82 = .ok (.ldc_w 261, 3) := by decide +kernel
theorem dX8_teacherAt_85 : decode cX8_teacherAt 85 = .ok (.invokespecial 194, 3) := by decide +kernel
theorem dX8_teacherAt_88 : decode cX8_teacherAt 88 = .ok (.athrow, 1) := by decide +kernel
theorem dX8_possible_0 : decode cX8_possible 0 = .ok (.aload_n 0, 1) := by decide +kernel
theorem dX8_possible_1 : decode cX8_possible 1 = .ok (.getfield 19, 3) := by decide +kernel
theorem dX8_possible_4 : decode cX8_possible 4 = .ok (.aload_n 0, 1) := by decide +kernel
theorem dX8_possible_5 : decode cX8_possible 5 = .ok (.iload_n 1, 1) := by decide +kernel
theorem dX8_possible_6 : decode cX8_possible 6 = .ok (.invokevirtual 149, 3) := by decide +kernel
theorem dX8_possible_9 : decode cX8_possible 9 = .ok (.invokevirtual 263, 3) := by decide +kernel
theorem dX8_possible_12 : decode cX8_possible 12 = .ok (.ireturn, 1) := by decide +kernel
theorem dX8_possibleAt_0 : decode cX8_possibleAt 0 = .ok (.aload_n 0, 1) := by decide +kernel
theorem dX8_possibleAt_1 : decode cX8_possibleAt 1 = .ok (.getfield 19, 3) := by decide +kernel
theorem dX8_possibleAt_4 : decode cX8_possibleAt 4 = .ok (.aload_n 0, 1) := by decide +kernel
theorem dX8_possibleAt_5 : decode cX8_possibleAt 5 = .ok (.iload_n 1, 1) := by decide +kernel
theorem dX8_possibleAt_6 : decode cX8_possibleAt 6 = .ok (.invokevirtual 149, 3) := by decide +kernel
theorem dX8_possibleAt_9 : decode cX8_possibleAt 9 = .ok (.iload_n 2, 1) := by decide +kernel
theorem dX8_possibleAt_10 : decode cX8_possibleAt 10 = .ok (.invokevirtual 267, 3) := by decide +kernel
theorem dX8_possibleAt_13 : decode cX8_possibleAt 13 = .ok (.istore_n 3, 1) := by decide +kernel
theorem dX8_possibleAt_14 : decode cX8_possibleAt 14 = .ok (.iload_n 3, 1) := by decide +kernel
theorem dX8_possibleAt_15 : decode cX8_possibleAt 15 = .ok (.iconst (-1), 1) := by decide +kernel
theorem dX8_possibleAt_16 : decode cX8_possibleAt 16 = .ok (.if_icmp .ne 14, 3) := by decide +kernel
theorem dX8_possibleAt_19 : decode cX8_possibleAt 19 = .ok (.new 190, 3) := by decide +kernel
theorem dX8_possibleAt_22 : decode cX8_possibleAt 22 = .ok (.dup, 1) := by decide +kernel
theorem dX8_possibleAt_23 : decode cX8_possibleAt 23 = .ok (.ldc_w 271, 3) := by decide +kernel
theorem dX8_possibleAt_26 : decode cX8_possibleAt 26 = .ok (.invokespecial 194, 3) := by decide +kernel
theorem dX8_possibleAt_29 : decode cX8_possibleAt 29 = .ok (.athrow, 1) := by decide +kernel
theorem dX8_possibleAt_30 : decode cX8_possibleAt 30 = .ok (.iload_n 3, 1) := by decide +kernel
theorem dX8_possibleAt_31 : decode cX8_possibleAt 31 = .ok (.ireturn, 1) := by decide +kernel
theorem dX8_cheapest_0 : decode cX8_cheapest 0 = .ok (.aload_n 0, 1) := by decide +kernel
theorem dX8_cheapest_1 : decode cX8_cheapest 1 = .ok (.getfield 19, 3) := by decide +kernel
theorem dX8_cheapest_4 : decode cX8_cheapest 4 = .ok (.aload_n 0, 1) := by decide +kernel
theorem dX8_cheapest_5 : decode cX8_cheapest 5 = .ok (.iload_n 1, 1) := by decide +kernel
theorem dX8_cheapest_6 : decode cX8_cheapest 6 = .ok (.invokevirtual 149, 3) := by decide +kernel
theorem dX8_cheapest_9 : decode cX8_cheapest 9 = .ok (.invokevirtual 273, 3) := by decide +kernel
theorem dX8_cheapest_12 : decode cX8_cheapest 12 = .ok (.istore_n 2, 1) := by decide +kernel
theorem dX8_cheapest_13 : decode cX8_cheapest 13 = .ok (.iload_n 2, 1) := by decide +kernel
theorem dX8_cheapest_14 : decode cX8_cheapest 14 = .ok (.iconst (-1), 1) := by decide +kernel
theorem dX8_cheapest_15 : decode cX8_cheapest 15 = .ok (.if_icmp .ne 14, 3) := by decide +kernel
theorem dX8_cheapest_18 : decode cX8_cheapest 18 = .ok (.new 190, 3) := by decide +kernel
theorem dX8_cheapest_21 : decode cX8_cheapest 21 = .ok (.dup, 1) := by decide +kernel
theorem dX8_cheapest_22 : decode cX8_cheapest 22 = .ok (.ldc_w 276, 3) := by decide +kernel
theorem dX8_cheapest_25 : decode cX8_cheapest 25 = .ok (.invokespecial 194, 3) := by decide +kernel
theorem dX8_cheapest_28 : decode cX8_cheapest 28 = .ok (.athrow, 1) := by decide +kernel
theorem dX8_cheapest_29 : decode cX8_cheapest 29 = .ok (.iload_n 2, 1) := by decide +kernel
theorem dX8_cheapest_30 : decode cX8_cheapest 30 = .ok (.ireturn, 1) := by decide +kernel
theorem dX8_costWith_0 : decode cX8_costWith 0 = .ok (.aload_n 0, 1) := by decide +kernel
theorem dX8_costWith_1 : decode cX8_costWith 1 = .ok (.iload_n 1, 1) := by decide +kernel
theorem dX8_costWith_2 : decode cX8_costWith 2 = .ok (.invokevirtual 149, 3) := by decide +kernel
theorem dX8_costWith_5 : decode cX8_costWith 5 = .ok (.astore 4, 2) := by decide +kernel
theorem dX8_costWith_7 : decode cX8_costWith 7 = .ok (.aload_n 0, 1) := by decide +kernel
theorem dX8_costWith_8 : decode cX8_costWith 8 = .ok (.iload_n 2, 1) := by decide +kernel
theorem dX8_costWith_9 : decode cX8_costWith 9 = .ok (.iload_n 3, 1) := by decide +kernel
theorem dX8_costWith_10 : decode cX8_costWith 10 = .ok (.invokevirtual 153, 3) := by decide +kernel
theorem dX8_costWith_13 : decode cX8_costWith 13 = .ok (.astore 5, 2) := by decide +kernel
theorem dX8_costWith_15 : decode cX8_costWith 15 = .ok (.aload_n 0, 1) := by decide +kernel
theorem dX8_costWith_16 : decode cX8_costWith 16 = .ok (.aload 4, 2) := by decide +kernel
theorem dX8_costWith_18 : decode cX8_costWith 18 = .ok (.iload_n 2, 1) := by decide +kernel
theorem dX8_costWith_19 : decode cX8_costWith 19 = .ok (.aload 5, 2) := by decide +kernel
theorem dX8_costWith_21 : decode cX8_costWith 21 = .ok (.invokevirtual 214, 3) := by decide +kernel
theorem dX8_costWith_24 : decode cX8_costWith 24 = .ok (.aload_n 0, 1) := by decide +kernel
theorem dX8_costWith_25 : decode cX8_costWith 25 = .ok (.getfield 19, 3) := by decide +kernel
theorem dX8_costWith_28 : decode cX8_costWith 28 = .ok (.aload 4, 2) := by decide +kernel
theorem dX8_costWith_30 : decode cX8_costWith 30 = .ok (.iload_n 2, 1) := by decide +kernel
theorem dX8_costWith_31 : decode cX8_costWith 31 = .ok (.invokevirtual 278, 3) := by decide +kernel
theorem dX8_costWith_34 : decode cX8_costWith 34 = .ok (.ireturn, 1) := by decide +kernel
theorem dX8_hardest_0 : decode cX8_hardest 0 = .ok (.aload_n 0, 1) := by decide +kernel
theorem dX8_hardest_1 : decode cX8_hardest 1 = .ok (.getfield 19, 3) := by decide +kernel
theorem dX8_hardest_4 : decode cX8_hardest 4 = .ok (.aload_n 0, 1) := by decide +kernel
theorem dX8_hardest_5 : decode cX8_hardest 5 = .ok (.getfield 19, 3) := by decide +kernel
theorem dX8_hardest_8 : decode cX8_hardest 8 = .ok (.invokevirtual 281, 3) := by decide +kernel
theorem dX8_hardest_11 : decode cX8_hardest 11 = .ok (.invokevirtual 284, 3) := by decide +kernel
theorem dX8_hardest_14 : decode cX8_hardest 14 = .ok (.astore_n 1, 1) := by decide +kernel
theorem dX8_hardest_15 : decode cX8_hardest 15 = .ok (.aload_n 1, 1) := by decide +kernel
theorem dX8_hardest_16 : decode cX8_hardest 16 = .ok (.ifnonnull 14, 3) := by decide +kernel
theorem dX8_hardest_19 : decode cX8_hardest 19 = .ok (.new 190, 3) := by decide +kernel
theorem dX8_hardest_22 : decode cX8_hardest 22 = .ok (.dup, 1) := by decide +kernel
theorem dX8_hardest_23 : decode cX8_hardest 23 = .ok (.ldc_w 287, 3) := by decide +kernel
theorem dX8_hardest_26 : decode cX8_hardest 26 = .ok (.invokespecial 194, 3) := by decide +kernel
theorem dX8_hardest_29 : decode cX8_hardest 29 = .ok (.athrow, 1) := by decide +kernel
theorem dX8_hardest_30 : decode cX8_hardest 30 = .ok (.aload_n 1, 1) := by decide +kernel
theorem dX8_hardest_31 : decode cX8_hardest 31 = .ok (.getfield 251, 3) := by decide +kernel
theorem dX8_hardest_34 : decode cX8_hardest 34 = .ok (.ireturn, 1) := by decide +kernel
theorem dX8_fill_0 : decode cX8_fill 0 = .ok (.aload_n 0, 1) := by decide +kernel
theorem dX8_fill_1 : decode cX8_fill 1 = .ok (.getfield 26, 3) := by decide +kernel
theorem dX8_fill_4 : decode cX8_fill 4 = .ok (.aload_n 0, 1) := by decide +kernel
theorem dX8_fill_5 : decode cX8_fill 5 = .ok (.getfield 19, 3) := by decide +kernel
theorem dX8_fill_8 : decode cX8_fill 8 = .ok (.invokevirtual 289, 3) := by decide +kernel
theorem dX8_fill_11 : decode cX8_fill 11 = .ok (.aload_n 0, 1) := by decide +kernel
theorem dX8_fill_12 : decode cX8_fill 12 = .ok (.getfield 19, 3) := by decide +kernel
theorem dX8_fill_15 : decode cX8_fill 15 = .ok (.invokevirtual 281, 3) := by decide +kernel
theorem dX8_fill_18 : decode cX8_fill 18 = .ok (.invokestatic 202, 3) := by decide +kernel
theorem dX8_fill_21 : decode cX8_fill 21 = .ok (.ireturn, 1) := by decide +kernel
theorem dX8_improve_0 : decode cX8_improve 0 = .ok (.iload_n 1, 1) := by decide +kernel
theorem dX8_improve_1 : decode cX8_improve 1 = .ok (.iconst 1, 1) := by decide +kernel
theorem dX8_improve_2 : decode cX8_improve 2 = .ok (.bipush 20, 2) := by decide +kernel
theorem dX8_improve_4 : decode cX8_improve 4 = .ok (.invokestatic 56, 3) := by decide +kernel
theorem dX8_improve_7 : decode cX8_improve 7 = .ok (.ifCond .eq 14, 3) := by decide +kernel
theorem dX8_improve_10 : decode cX8_improve 10 = .ok (.new 60, 3) := by decide +kernel
theorem dX8_improve_13 : decode cX8_improve 13 = .ok (.dup, 1) := by decide +kernel
theorem dX8_improve_14 : decode cX8_improve 14 = .ok (.ldc_w 293, 3) := by decide +kernel
theorem dX8_improve_17 : decode cX8_improve 17 = .ok (.invokespecial 64, 3) := by decide +kernel
theorem dX8_improve_20 : decode cX8_improve 20 = .ok (.athrow, 1) := by decide +kernel
theorem dX8_improve_21 : decode cX8_improve 21 = .ok (.aload_n 0, 1) := by decide +kernel
theorem dX8_improve_22 : decode cX8_improve 22 = .ok (.getfield 33, 3) := by decide +kernel
theorem dX8_improve_25 : decode cX8_improve 25 = .ok (.aload_n 0, 1) := by decide +kernel
theorem dX8_improve_26 : decode cX8_improve 26 = .ok (.getfield 19, 3) := by decide +kernel
theorem dX8_improve_29 : decode cX8_improve 29 = .ok (.iload_n 1, 1) := by decide +kernel
theorem dX8_improve_30 : decode cX8_improve 30 = .ok (.invokevirtual 295, 3) := by decide +kernel
theorem dX8_improve_33 : decode cX8_improve 33 = .ok (.aload_n 0, 1) := by decide +kernel
theorem dX8_improve_34 : decode cX8_improve 34 = .ok (.getfield 19, 3) := by decide +kernel
theorem dX8_improve_37 : decode cX8_improve 37 = .ok (.invokevirtual 221, 3) := by decide +kernel
theorem dX8_improve_40 : decode cX8_improve 40 = .ok (.ireturn, 1) := by decide +kernel
theorem dX8_cost_0 : decode cX8_cost 0 = .ok (.aload_n 0, 1) := by decide +kernel
theorem dX8_cost_1 : decode cX8_cost 1 = .ok (.getfield 19, 3) := by decide +kernel
theorem dX8_cost_4 : decode cX8_cost 4 = .ok (.invokevirtual 221, 3) := by decide +kernel
theorem dX8_cost_7 : decode cX8_cost 7 = .ok (.ireturn, 1) := by decide +kernel
theorem dX8_costAnew_0 : decode cX8_costAnew 0 = .ok (.iconst 0, 1) := by decide +kernel
theorem dX8_costAnew_1 : decode cX8_costAnew 1 = .ok (.istore_n 1, 1) := by decide +kernel
theorem dX8_costAnew_2 : decode cX8_costAnew 2 = .ok (.iconst 0, 1) := by decide +kernel
theorem dX8_costAnew_3 : decode cX8_costAnew 3 = .ok (.istore_n 2, 1) := by decide +kernel
theorem dX8_costAnew_4 : decode cX8_costAnew 4 = .ok (.iload_n 2, 1) := by decide +kernel
theorem dX8_costAnew_5 : decode cX8_costAnew 5 = .ok (.aload_n 0, 1) := by decide +kernel
theorem dX8_costAnew_6 : decode cX8_costAnew 6 = .ok (.getfield 19, 3) := by decide +kernel
theorem dX8_costAnew_9 : decode cX8_costAnew 9 = .ok (.getfield 299, 3) := by decide +kernel
theorem dX8_costAnew_12 : decode cX8_costAnew 12 = .ok (.arraylength, 1) := by decide +kernel
theorem dX8_costAnew_13 : decode cX8_costAnew 13 = .ok (.if_icmp .ge 30, 3) := by decide +kernel
theorem dX8_costAnew_16 : decode cX8_costAnew 16 = .ok (.iload_n 1, 1) := by decide +kernel
theorem dX8_costAnew_17 : decode cX8_costAnew 17 = .ok (.aload_n 0, 1) := by decide +kernel
theorem dX8_costAnew_18 : decode cX8_costAnew 18 = .ok (.getfield 19, 3) := by decide +kernel
theorem dX8_costAnew_21 : decode cX8_costAnew 21 = .ok (.getfield 299, 3) := by decide +kernel
theorem dX8_costAnew_24 : decode cX8_costAnew 24 = .ok (.iload_n 2, 1) := by decide +kernel
theorem dX8_costAnew_25 : decode cX8_costAnew 25 = .ok (.iaload, 1) := by decide +kernel
theorem dX8_costAnew_26 : decode cX8_costAnew 26 = .ok (.aload_n 0, 1) := by decide +kernel
theorem dX8_costAnew_27 : decode cX8_costAnew 27 = .ok (.getfield 19, 3) := by decide +kernel
theorem dX8_costAnew_30 : decode cX8_costAnew 30 = .ok (.iload_n 2, 1) := by decide +kernel
theorem dX8_costAnew_31 : decode cX8_costAnew 31 = .ok (.invokevirtual 302, 3) := by decide +kernel
theorem dX8_costAnew_34 : decode cX8_costAnew 34 = .ok (.imul, 1) := by decide +kernel
theorem dX8_costAnew_35 : decode cX8_costAnew 35 = .ok (.iadd, 1) := by decide +kernel
theorem dX8_costAnew_36 : decode cX8_costAnew 36 = .ok (.istore_n 1, 1) := by decide +kernel
theorem dX8_costAnew_37 : decode cX8_costAnew 37 = .ok (.iinc 2 1, 3) := by decide +kernel
theorem dX8_costAnew_40 : decode cX8_costAnew 40 = .ok (.goto (-36), 3) := by decide +kernel
theorem dX8_costAnew_43 : decode cX8_costAnew 43 = .ok (.iload_n 1, 1) := by decide +kernel
theorem dX8_costAnew_44 : decode cX8_costAnew 44 = .ok (.ireturn, 1) := by decide +kernel
theorem dX8_amount_0 : decode cX8_amount 0 = .ok (.iload_n 1, 1) := by decide +kernel
theorem dX8_amount_1 : decode cX8_amount 1 = .ok (.invokestatic 140, 3) := by decide +kernel
theorem dX8_amount_4 : decode cX8_amount 4 = .ok (.aload_n 0, 1) := by decide +kernel
theorem dX8_amount_5 : decode cX8_amount 5 = .ok (.getfield 19, 3) := by decide +kernel
theorem dX8_amount_8 : decode cX8_amount 8 = .ok (.getfield 305, 3) := by decide +kernel
theorem dX8_amount_11 : decode cX8_amount 11 = .ok (.iload_n 1, 1) := by decide +kernel
theorem dX8_amount_12 : decode cX8_amount 12 = .ok (.invokestatic 308, 3) := by decide +kernel
theorem dX8_amount_15 : decode cX8_amount 15 = .ok (.ireturn, 1) := by decide +kernel
theorem dX8_breaks_0 : decode cX8_breaks 0 = .ok (.aload_n 0, 1) := by decide +kernel
theorem dX8_breaks_1 : decode cX8_breaks 1 = .ok (.getfield 19, 3) := by decide +kernel
theorem dX8_breaks_4 : decode cX8_breaks 4 = .ok (.invokevirtual 312, 3) := by decide +kernel
theorem dX8_breaks_7 : decode cX8_breaks 7 = .ok (.ireturn, 1) := by decide +kernel
theorem dX8_lacking_0 : decode cX8_lacking 0 = .ok (.iload_n 1, 1) := by decide +kernel
theorem dX8_lacking_1 : decode cX8_lacking 1 = .ok (.invokestatic 315, 3) := by decide +kernel
theorem dX8_lacking_4 : decode cX8_lacking 4 = .ok (.aload_n 0, 1) := by decide +kernel
theorem dX8_lacking_5 : decode cX8_lacking 5 = .ok (.getfield 40, 3) := by decide +kernel
theorem dX8_lacking_8 : decode cX8_lacking 8 = .ok (.aload_n 0, 1) := by decide +kernel
theorem dX8_lacking_9 : decode cX8_lacking 9 = .ok (.getfield 19, 3) := by decide +kernel
theorem dX8_lacking_12 : decode cX8_lacking 12 = .ok (.iload_n 1, 1) := by decide +kernel
theorem dX8_lacking_13 : decode cX8_lacking 13 = .ok (.invokevirtual 318, 3) := by decide +kernel
theorem dX8_lacking_16 : decode cX8_lacking 16 = .ok (.ireturn, 1) := by decide +kernel
theorem dX8_lackingBySeats_0 : decode cX8_lackingBySeats 0 = .ok (.iload_n 1, 1) := by decide +kernel
theorem dX8_lackingBySeats_1 : decode cX8_lackingBySeats 1 = .ok (.invokestatic 315, 3) := by decide +kernel
theorem dX8_lackingBySeats_4 : decode cX8_lackingBySeats 4 = .ok (.aload_n 0, 1) := by decide +kernel
theorem dX8_lackingBySeats_5 : decode cX8_lackingBySeats 5 = .ok (.getfield 40, 3) := by decide +kernel
theorem dX8_lackingBySeats_8 : decode cX8_lackingBySeats 8 = .ok (.aload_n 0, 1) := by decide +kernel
theorem dX8_lackingBySeats_9 : decode cX8_lackingBySeats 9 = .ok (.getfield 19, 3) := by decide +kernel
theorem dX8_lackingBySeats_12 : decode cX8_lackingBySeats 12 = .ok (.iload_n 1, 1) := by decide +kernel
theorem dX8_lackingBySeats_13 : decode cX8_lackingBySeats 13 = .ok (.invokevirtual 322, 3) := by decide +kernel
theorem dX8_lackingBySeats_16 : decode cX8_lackingBySeats 16 = .ok (.ireturn, 1) := by decide +kernel
theorem dX8_ill_0 : decode cX8_ill 0 = .ok (.aload_n 0, 1) := by decide +kernel
theorem dX8_ill_1 : decode cX8_ill 1 = .ok (.iload_n 1, 1) := by decide +kernel
theorem dX8_ill_2 : decode cX8_ill 2 = .ok (.invokevirtual 115, 3) := by decide +kernel
theorem dX8_ill_5 : decode cX8_ill 5 = .ok (.astore_n 3, 1) := by decide +kernel
theorem dX8_ill_6 : decode cX8_ill 6 = .ok (.iload_n 2, 1) := by decide +kernel
theorem dX8_ill_7 : decode cX8_ill 7 = .ok (.aload_n 0, 1) := by decide +kernel
theorem dX8_ill_8 : decode cX8_ill 8 = .ok (.getfield 19, 3) := by decide +kernel
theorem dX8_ill_11 : decode cX8_ill 11 = .ok (.getfield 325, 3) := by decide +kernel
theorem dX8_ill_14 : decode cX8_ill 14 = .ok (.iconst 4, 1) := by decide +kernel
theorem dX8_ill_15 : decode cX8_ill 15 = .ok (.invokestatic 56, 3) := by decide +kernel
theorem dX8_ill_18 : decode cX8_ill 18 = .ok (.ifCond .eq 14, 3) := by decide +kernel
theorem dX8_ill_21 : decode cX8_ill 21 = .ok (.new 60, 3) := by decide +kernel
theorem dX8_ill_24 : decode cX8_ill 24 = .ok (.dup, 1) := by decide +kernel
theorem dX8_ill_25 : decode cX8_ill 25 = .ok (.ldc_w 328, 3) := by decide +kernel
theorem dX8_ill_28 : decode cX8_ill 28 = .ok (.invokespecial 64, 3) := by decide +kernel
theorem dX8_ill_31 : decode cX8_ill 31 = .ok (.athrow, 1) := by decide +kernel
theorem dX8_ill_32 : decode cX8_ill 32 = .ok (.aload_n 3, 1) := by decide +kernel
theorem dX8_ill_33 : decode cX8_ill 33 = .ok (.getfield 330, 3) := by decide +kernel
theorem dX8_ill_36 : decode cX8_ill 36 = .ok (.iload_n 2, 1) := by decide +kernel
theorem dX8_ill_37 : decode cX8_ill 37 = .ok (.invokestatic 333, 3) := by decide +kernel
theorem dX8_ill_40 : decode cX8_ill 40 = .ok (.iand, 1) := by decide +kernel
theorem dX8_ill_41 : decode cX8_ill 41 = .ok (.ifCond .eq 14, 3) := by decide +kernel
theorem dX8_ill_44 : decode cX8_ill 44 = .ok (.new 74, 3) := by decide +kernel
theorem dX8_ill_47 : decode cX8_ill 47 = .ok (.dup, 1) := by decide +kernel
theorem dX8_ill_48 : decode cX8_ill 48 = .ok (.ldc_w 336, 3) := by decide +kernel
theorem dX8_ill_51 : decode cX8_ill 51 = .ok (.invokespecial 78, 3) := by decide +kernel
theorem dX8_ill_54 : decode cX8_ill 54 = .ok (.athrow, 1) := by decide +kernel
theorem dX8_ill_55 : decode cX8_ill 55 = .ok (.iconst 0, 1) := by decide +kernel
theorem dX8_ill_56 : decode cX8_ill 56 = .ok (.istore 4, 2) := by decide +kernel
theorem dX8_ill_58 : decode cX8_ill 58 = .ok (.iconst 0, 1) := by decide +kernel
theorem dX8_ill_59 : decode cX8_ill 59 = .ok (.istore 5, 2) := by decide +kernel
theorem dX8_ill_61 : decode cX8_ill 61 = .ok (.iload 5, 2) := by decide +kernel
theorem dX8_ill_63 : decode cX8_ill 63 = .ok (.aload_n 0, 1) := by decide +kernel
theorem dX8_ill_64 : decode cX8_ill 64 = .ok (.getfield 19, 3) := by decide +kernel
theorem dX8_ill_67 : decode cX8_ill 67 = .ok (.getfield 121, 3) := by decide +kernel
theorem dX8_ill_70 : decode cX8_ill 70 = .ok (.invokevirtual 70, 3) := by decide +kernel
theorem dX8_ill_73 : decode cX8_ill 73 = .ok (.if_icmp .ge 72, 3) := by decide +kernel
theorem dX8_ill_76 : decode cX8_ill 76 = .ok (.aload_n 0, 1) := by decide +kernel
theorem dX8_ill_77 : decode cX8_ill 77 = .ok (.getfield 19, 3) := by decide +kernel
theorem dX8_ill_80 : decode cX8_ill 80 = .ok (.getfield 121, 3) := by decide +kernel
theorem dX8_ill_83 : decode cX8_ill 83 = .ok (.iload 5, 2) := by decide +kernel
theorem dX8_ill_85 : decode cX8_ill 85 = .ok (.invokevirtual 186, 3) := by decide +kernel
theorem dX8_ill_88 : decode cX8_ill 88 = .ok (.checkcast 126, 3) := by decide +kernel
theorem dX8_ill_91 : decode cX8_ill 91 = .ok (.astore 6, 2) := by decide +kernel
theorem dX8_ill_93 : decode cX8_ill 93 = .ok (.aload 6, 2) := by decide +kernel
theorem dX8_ill_95 : decode cX8_ill 95 = .ok (.getfield 257, 3) := by decide +kernel
theorem dX8_ill_98 : decode cX8_ill 98 = .ok (.aload_n 3, 1) := by decide +kernel
theorem dX8_ill_99 : decode cX8_ill 99 = .ok (.if_acmp .ne 40, 3) := by decide +kernel
theorem dX8_ill_102 : decode cX8_ill 102 = .ok (.aload 6, 2) := by decide +kernel
theorem dX8_ill_104 : decode cX8_ill 104 = .ok (.iload_n 2, 1) := by decide +kernel
theorem dX8_ill_105 : decode cX8_ill 105 = .ok (.invokevirtual 338, 3) := by decide +kernel
theorem dX8_ill_108 : decode cX8_ill 108 = .ok (.ifCond .eq 31, 3) := by decide +kernel
theorem dX8_ill_111 : decode cX8_ill 111 = .ok (.aload 6, 2) := by decide +kernel
theorem dX8_ill_113 : decode cX8_ill 113 = .ok (.getfield 230, 3) := by decide +kernel
theorem dX8_ill_116 : decode cX8_ill 116 = .ok (.ifCond .eq 14, 3) := by decide +kernel
theorem dX8_ill_119 : decode cX8_ill 119 = .ok (.new 341, 3) := by decide +kernel
theorem dX8_ill_122 : decode cX8_ill 122 = .ok (.dup, 1) := by decide +kernel
theorem dX8_ill_123 : decode cX8_ill 123 = .ok (.ldc_w 343, 3) := by decide +kernel
theorem dX8_ill_126 : decode cX8_ill 126 = .ok (.invokespecial 345, 3) := by decide +kernel
theorem dX8_ill_129 : decode cX8_ill 129 = .ok (.athrow, 1) := by decide +kernel
theorem dX8_ill_130 : decode cX8_ill 130 = .ok (.iload 4, 2) := by decide +kernel
theorem dX8_ill_132 : decode cX8_ill 132 = .ok (.iconst 1, 1) := by decide +kernel
theorem dX8_ill_133 : decode cX8_ill 133 = .ok (.iload 5, 2) := by decide +kernel
theorem dX8_ill_135 : decode cX8_ill 135 = .ok (.ishl, 1) := by decide +kernel
theorem dX8_ill_136 : decode cX8_ill 136 = .ok (.ior, 1) := by decide +kernel
theorem dX8_ill_137 : decode cX8_ill 137 = .ok (.istore 4, 2) := by decide +kernel
theorem dX8_ill_139 : decode cX8_ill 139 = .ok (.iinc 5 1, 3) := by decide +kernel
theorem dX8_ill_142 : decode cX8_ill 142 = .ok (.goto (-81), 3) := by decide +kernel
theorem dX8_ill_145 : decode cX8_ill 145 = .ok (.aload_n 3, 1) := by decide +kernel
theorem dX8_ill_146 : decode cX8_ill 146 = .ok (.dup, 1) := by decide +kernel
theorem dX8_ill_147 : decode cX8_ill 147 = .ok (.getfield 330, 3) := by decide +kernel
theorem dX8_ill_150 : decode cX8_ill 150 = .ok (.iload_n 2, 1) := by decide +kernel
theorem dX8_ill_151 : decode cX8_ill 151 = .ok (.invokestatic 333, 3) := by decide +kernel
theorem dX8_ill_154 : decode cX8_ill 154 = .ok (.ior, 1) := by decide +kernel
theorem dX8_ill_155 : decode cX8_ill 155 = .ok (.putfield 330, 3) := by decide +kernel
theorem dX8_ill_158 : decode cX8_ill 158 = .ok (.aload_n 0, 1) := by decide +kernel
theorem dX8_ill_159 : decode cX8_ill 159 = .ok (.getfield 19, 3) := by decide +kernel
theorem dX8_ill_162 : decode cX8_ill 162 = .ok (.iload 4, 2) := by decide +kernel
theorem dX8_ill_164 : decode cX8_ill 164 = .ok (.invokevirtual 346, 3) := by decide +kernel
theorem dX8_ill_167 : decode cX8_ill 167 = .ok (.ireturn, 1) := by decide +kernel
theorem dX8_close_0 : decode cX8_close 0 = .ok (.aload_n 0, 1) := by decide +kernel
theorem dX8_close_1 : decode cX8_close 1 = .ok (.iload_n 1, 1) := by decide +kernel
theorem dX8_close_2 : decode cX8_close 2 = .ok (.invokevirtual 349, 3) := by decide +kernel
theorem dX8_close_5 : decode cX8_close 5 = .ok (.astore_n 2, 1) := by decide +kernel
theorem dX8_close_6 : decode cX8_close 6 = .ok (.aload_n 2, 1) := by decide +kernel
theorem dX8_close_7 : decode cX8_close 7 = .ok (.getfield 353, 3) := by decide +kernel
theorem dX8_close_10 : decode cX8_close 10 = .ok (.ifCond .ne 14, 3) := by decide +kernel
theorem dX8_close_13 : decode cX8_close 13 = .ok (.new 74, 3) := by decide +kernel
theorem dX8_close_16 : decode cX8_close 16 = .ok (.dup, 1) := by decide +kernel
theorem dX8_close_17 : decode cX8_close 17 = .ok (.ldc_w 356, 3) := by decide +kernel
theorem dX8_close_20 : decode cX8_close 20 = .ok (.invokespecial 78, 3) := by decide +kernel
theorem dX8_close_23 : decode cX8_close 23 = .ok (.athrow, 1) := by decide +kernel
theorem dX8_close_24 : decode cX8_close 24 = .ok (.iconst 0, 1) := by decide +kernel
theorem dX8_close_25 : decode cX8_close 25 = .ok (.istore_n 3, 1) := by decide +kernel
theorem dX8_close_26 : decode cX8_close 26 = .ok (.iconst 0, 1) := by decide +kernel
theorem dX8_close_27 : decode cX8_close 27 = .ok (.istore 4, 2) := by decide +kernel
theorem dX8_close_29 : decode cX8_close 29 = .ok (.iload 4, 2) := by decide +kernel
theorem dX8_close_31 : decode cX8_close 31 = .ok (.aload_n 0, 1) := by decide +kernel
theorem dX8_close_32 : decode cX8_close 32 = .ok (.getfield 19, 3) := by decide +kernel
theorem dX8_close_35 : decode cX8_close 35 = .ok (.getfield 121, 3) := by decide +kernel
theorem dX8_close_38 : decode cX8_close 38 = .ok (.invokevirtual 70, 3) := by decide +kernel
theorem dX8_close_41 : decode cX8_close 41 = .ok (.if_icmp .ge 77, 3) := by decide +kernel
theorem dX8_close_44 : decode cX8_close 44 = .ok (.aload_n 0, 1) := by decide +kernel
theorem dX8_close_45 : decode cX8_close 45 = .ok (.getfield 19, 3) := by decide +kernel
theorem dX8_close_48 : decode cX8_close 48 = .ok (.getfield 121, 3) := by decide +kernel
theorem dX8_close_51 : decode cX8_close 51 = .ok (.iload 4, 2) := by decide +kernel
theorem dX8_close_53 : decode cX8_close 53 = .ok (.invokevirtual 186, 3) := by decide +kernel
theorem dX8_close_56 : decode cX8_close 56 = .ok (.checkcast 126, 3) := by decide +kernel
theorem dX8_close_59 : decode cX8_close 59 = .ok (.astore 5, 2) := by decide +kernel
theorem dX8_close_61 : decode cX8_close 61 = .ok (.aload 5, 2) := by decide +kernel
theorem dX8_close_63 : decode cX8_close 63 = .ok (.getfield 358, 3) := by decide +kernel
theorem dX8_close_66 : decode cX8_close 66 = .ok (.aload_n 2, 1) := by decide +kernel
theorem dX8_close_67 : decode cX8_close 67 = .ok (.if_acmp .ne 45, 3) := by decide +kernel
theorem dX8_close_70 : decode cX8_close 70 = .ok (.aload 5, 2) := by decide +kernel
theorem dX8_close_72 : decode cX8_close 72 = .ok (.getfield 230, 3) := by decide +kernel
theorem dX8_close_75 : decode cX8_close 75 = .ok (.ifCond .eq 14, 3) := by decide +kernel
theorem dX8_close_78 : decode cX8_close 78 = .ok (.new 341, 3) := by decide +kernel
theorem dX8_close_81 : decode cX8_close 81 = .ok (.dup, 1) := by decide +kernel
theorem dX8_close_82 : decode cX8_close 82 = .ok (.ldc_w 362, 3) := by decide +kernel
theorem dX8_close_85 : decode cX8_close 85 = .ok (.invokespecial 345, 3) := by decide +kernel
theorem dX8_close_88 : decode cX8_close 88 = .ok (.athrow, 1) := by decide +kernel
theorem dX8_close_89 : decode cX8_close 89 = .ok (.iload_n 3, 1) := by decide +kernel
theorem dX8_close_90 : decode cX8_close 90 = .ok (.aload_n 0, 1) := by decide +kernel
theorem dX8_close_91 : decode cX8_close 91 = .ok (.getfield 19, 3) := by decide +kernel
theorem dX8_close_94 : decode cX8_close 94 = .ok (.aload 5, 2) := by decide +kernel
theorem dX8_close_96 : decode cX8_close 96 = .ok (.invokevirtual 364, 3) := by decide +kernel
theorem dX8_close_99 : decode cX8_close 99 = .ok (.ifCond .eq 7, 3) := by decide +kernel
theorem dX8_close_102 : decode cX8_close 102 = .ok (.iconst 0, 1) := by decide +kernel
theorem dX8_close_103 : decode cX8_close 103 = .ok (.goto 7, 3) := by decide +kernel
theorem dX8_close_106 : decode cX8_close 106 = .ok (.iconst 1, 1) := by decide +kernel
theorem dX8_close_107 : decode cX8_close 107 = .ok (.iload 4, 2) := by decide +kernel
theorem dX8_close_109 : decode cX8_close 109 = .ok (.ishl, 1) := by decide +kernel
theorem dX8_close_110 : decode cX8_close 110 = .ok (.ior, 1) := by decide +kernel
theorem dX8_close_111 : decode cX8_close 111 = .ok (.istore_n 3, 1) := by decide +kernel
theorem dX8_close_112 : decode cX8_close 112 = .ok (.iinc 4 1, 3) := by decide +kernel
theorem dX8_close_115 : decode cX8_close 115 = .ok (.goto (-86), 3) := by decide +kernel
theorem dX8_close_118 : decode cX8_close 118 = .ok (.aload_n 2, 1) := by decide +kernel
theorem dX8_close_119 : decode cX8_close 119 = .ok (.iconst 0, 1) := by decide +kernel
theorem dX8_close_120 : decode cX8_close 120 = .ok (.putfield 353, 3) := by decide +kernel
theorem dX8_close_123 : decode cX8_close 123 = .ok (.aload_n 0, 1) := by decide +kernel
theorem dX8_close_124 : decode cX8_close 124 = .ok (.getfield 19, 3) := by decide +kernel
theorem dX8_close_127 : decode cX8_close 127 = .ok (.iload_n 3, 1) := by decide +kernel
theorem dX8_close_128 : decode cX8_close 128 = .ok (.invokevirtual 346, 3) := by decide +kernel
theorem dX8_close_131 : decode cX8_close 131 = .ok (.ireturn, 1) := by decide +kernel
theorem dX8_open_0 : decode cX8_open 0 = .ok (.aload_n 0, 1) := by decide +kernel
theorem dX8_open_1 : decode cX8_open 1 = .ok (.iload_n 1, 1) := by decide +kernel
theorem dX8_open_2 : decode cX8_open 2 = .ok (.invokevirtual 349, 3) := by decide +kernel
theorem dX8_open_5 : decode cX8_open 5 = .ok (.astore_n 2, 1) := by decide +kernel
theorem dX8_open_6 : decode cX8_open 6 = .ok (.aload_n 2, 1) := by decide +kernel
theorem dX8_open_7 : decode cX8_open 7 = .ok (.getfield 353, 3) := by decide +kernel
theorem dX8_open_10 : decode cX8_open 10 = .ok (.ifCond .eq 14, 3) := by decide +kernel
theorem dX8_open_13 : decode cX8_open 13 = .ok (.new 74, 3) := by decide +kernel
theorem dX8_open_16 : decode cX8_open 16 = .ok (.dup, 1) := by decide +kernel
theorem dX8_open_17 : decode cX8_open 17 = .ok (.ldc_w 368, 3) := by decide +kernel
theorem dX8_open_20 : decode cX8_open 20 = .ok (.invokespecial 78, 3) := by decide +kernel
theorem dX8_open_23 : decode cX8_open 23 = .ok (.athrow, 1) := by decide +kernel
theorem dX8_open_24 : decode cX8_open 24 = .ok (.aload_n 2, 1) := by decide +kernel
theorem dX8_open_25 : decode cX8_open 25 = .ok (.iconst 1, 1) := by decide +kernel
theorem dX8_open_26 : decode cX8_open 26 = .ok (.putfield 353, 3) := by decide +kernel
theorem dX8_open_29 : decode cX8_open 29 = .ok (.iconst 0, 1) := by decide +kernel
theorem dX8_open_30 : decode cX8_open 30 = .ok (.istore_n 3, 1) := by decide +kernel
theorem dX8_open_31 : decode cX8_open 31 = .ok (.iconst 0, 1) := by decide +kernel
theorem dX8_open_32 : decode cX8_open 32 = .ok (.istore 4, 2) := by decide +kernel
theorem dX8_open_34 : decode cX8_open 34 = .ok (.iload 4, 2) := by decide +kernel
theorem dX8_open_36 : decode cX8_open 36 = .ok (.aload_n 0, 1) := by decide +kernel
theorem dX8_open_37 : decode cX8_open 37 = .ok (.getfield 19, 3) := by decide +kernel
theorem dX8_open_40 : decode cX8_open 40 = .ok (.getfield 67, 3) := by decide +kernel
theorem dX8_open_43 : decode cX8_open 43 = .ok (.invokevirtual 70, 3) := by decide +kernel
theorem dX8_open_46 : decode cX8_open 46 = .ok (.if_icmp .ge 33, 3) := by decide +kernel
theorem dX8_open_49 : decode cX8_open 49 = .ok (.aload_n 0, 1) := by decide +kernel
theorem dX8_open_50 : decode cX8_open 50 = .ok (.getfield 19, 3) := by decide +kernel
theorem dX8_open_53 : decode cX8_open 53 = .ok (.getfield 67, 3) := by decide +kernel
theorem dX8_open_56 : decode cX8_open 56 = .ok (.iload 4, 2) := by decide +kernel
theorem dX8_open_58 : decode cX8_open 58 = .ok (.invokevirtual 186, 3) := by decide +kernel
theorem dX8_open_61 : decode cX8_open 61 = .ok (.checkcast 79, 3) := by decide +kernel
theorem dX8_open_64 : decode cX8_open 64 = .ok (.getfield 353, 3) := by decide +kernel
theorem dX8_open_67 : decode cX8_open 67 = .ok (.ifCond .eq 6, 3) := by decide +kernel
theorem dX8_open_70 : decode cX8_open 70 = .ok (.iinc 3 1, 3) := by decide +kernel
theorem dX8_open_73 : decode cX8_open 73 = .ok (.iinc 4 1, 3) := by decide +kernel
theorem dX8_open_76 : decode cX8_open 76 = .ok (.goto (-42), 3) := by decide +kernel
theorem dX8_open_79 : decode cX8_open 79 = .ok (.iload_n 3, 1) := by decide +kernel
theorem dX8_open_80 : decode cX8_open 80 = .ok (.ireturn, 1) := by decide +kernel
theorem dX8_passDay_0 : decode cX8_passDay 0 = .ok (.aload_n 0, 1) := by decide +kernel
theorem dX8_passDay_1 : decode cX8_passDay 1 = .ok (.getfield 19, 3) := by decide +kernel
theorem dX8_passDay_4 : decode cX8_passDay 4 = .ok (.getfield 325, 3) := by decide +kernel
theorem dX8_passDay_7 : decode cX8_passDay 7 = .ok (.iconst 4, 1) := by decide +kernel
theorem dX8_passDay_8 : decode cX8_passDay 8 = .ok (.if_icmp .lt 14, 3) := by decide +kernel
theorem dX8_passDay_11 : decode cX8_passDay 11 = .ok (.new 74, 3) := by decide +kernel
theorem dX8_passDay_14 : decode cX8_passDay 14 = .ok (.dup, 1) := by decide +kernel
theorem dX8_passDay_15 : decode cX8_passDay 15 = .ok (.ldc_w 370, 3) := by decide +kernel
theorem dX8_passDay_18 : decode cX8_passDay 18 = .ok (.invokespecial 78, 3) := by decide +kernel
theorem dX8_passDay_21 : decode cX8_passDay 21 = .ok (.athrow, 1) := by decide +kernel
theorem dX8_passDay_22 : decode cX8_passDay 22 = .ok (.aload_n 0, 1) := by decide +kernel
theorem dX8_passDay_23 : decode cX8_passDay 23 = .ok (.getfield 19, 3) := by decide +kernel
theorem dX8_passDay_26 : decode cX8_passDay 26 = .ok (.dup, 1) := by decide +kernel
theorem dX8_passDay_27 : decode cX8_passDay 27 = .ok (.getfield 325, 3) := by decide +kernel
theorem dX8_passDay_30 : decode cX8_passDay 30 = .ok (.iconst 1, 1) := by decide +kernel
theorem dX8_passDay_31 : decode cX8_passDay 31 = .ok (.iadd, 1) := by decide +kernel
theorem dX8_passDay_32 : decode cX8_passDay 32 = .ok (.putfield 325, 3) := by decide +kernel
theorem dX8_passDay_35 : decode cX8_passDay 35 = .ok (.aload_n 0, 1) := by decide +kernel
theorem dX8_passDay_36 : decode cX8_passDay 36 = .ok (.getfield 19, 3) := by decide +kernel
theorem dX8_passDay_39 : decode cX8_passDay 39 = .ok (.getfield 325, 3) := by decide +kernel
theorem dX8_passDay_42 : decode cX8_passDay 42 = .ok (.ireturn, 1) := by decide +kernel
theorem dX8_nextWeek_0 : decode cX8_nextWeek 0 = .ok (.aload_n 0, 1) := by decide +kernel
theorem dX8_nextWeek_1 : decode cX8_nextWeek 1 = .ok (.getfield 19, 3) := by decide +kernel
theorem dX8_nextWeek_4 : decode cX8_nextWeek 4 = .ok (.getfield 325, 3) := by decide +kernel
theorem dX8_nextWeek_7 : decode cX8_nextWeek 7 = .ok (.iconst 4, 1) := by decide +kernel
theorem dX8_nextWeek_8 : decode cX8_nextWeek 8 = .ok (.if_icmp .eq 14, 3) := by decide +kernel
theorem dX8_nextWeek_11 : decode cX8_nextWeek 11 = .ok (.new 74, 3) := by decide +kernel
theorem dX8_nextWeek_14 : decode cX8_nextWeek 14 = .ok (.dup, 1) := by decide +kernel
theorem dX8_nextWeek_15 : decode cX8_nextWeek 15 = .ok (.ldc_w 372, 3) := by decide +kernel
theorem dX8_nextWeek_18 : decode cX8_nextWeek 18 = .ok (.invokespecial 78, 3) := by decide +kernel
theorem dX8_nextWeek_21 : decode cX8_nextWeek 21 = .ok (.athrow, 1) := by decide +kernel
theorem dX8_nextWeek_22 : decode cX8_nextWeek 22 = .ok (.aload_n 0, 1) := by decide +kernel
theorem dX8_nextWeek_23 : decode cX8_nextWeek 23 = .ok (.getfield 19, 3) := by decide +kernel
theorem dX8_nextWeek_26 : decode cX8_nextWeek 26 = .ok (.invokevirtual 374, 3) := by decide +kernel
theorem dX8_nextWeek_29 : decode cX8_nextWeek 29 = .ok (.aload_n 0, 1) := by decide +kernel
theorem dX8_nextWeek_30 : decode cX8_nextWeek 30 = .ok (.getfield 19, 3) := by decide +kernel
theorem dX8_nextWeek_33 : decode cX8_nextWeek 33 = .ok (.iconst 0, 1) := by decide +kernel
theorem dX8_nextWeek_34 : decode cX8_nextWeek 34 = .ok (.putfield 325, 3) := by decide +kernel
theorem dX8_nextWeek_37 : decode cX8_nextWeek 37 = .ok (.aload_n 0, 1) := by decide +kernel
theorem dX8_nextWeek_38 : decode cX8_nextWeek 38 = .ok (.getfield 19, 3) := by decide +kernel
theorem dX8_nextWeek_41 : decode cX8_nextWeek 41 = .ok (.aload_n 0, 1) := by decide +kernel
theorem dX8_nextWeek_42 : decode cX8_nextWeek 42 = .ok (.getfield 19, 3) := by decide +kernel
theorem dX8_nextWeek_45 : decode cX8_nextWeek 45 = .ok (.invokevirtual 377, 3) := by decide +kernel
theorem dX8_nextWeek_48 : decode cX8_nextWeek 48 = .ok (.invokevirtual 346, 3) := by decide +kernel
theorem dX8_nextWeek_51 : decode cX8_nextWeek 51 = .ok (.pop, 1) := by decide +kernel
theorem dX8_nextWeek_52 : decode cX8_nextWeek 52 = .ok (.aload_n 0, 1) := by decide +kernel
theorem dX8_nextWeek_53 : decode cX8_nextWeek 53 = .ok (.dup, 1) := by decide +kernel
theorem dX8_nextWeek_54 : decode cX8_nextWeek 54 = .ok (.getfield 380, 3) := by decide +kernel
theorem dX8_nextWeek_57 : decode cX8_nextWeek 57 = .ok (.iconst 1, 1) := by decide +kernel
theorem dX8_nextWeek_58 : decode cX8_nextWeek 58 = .ok (.iadd, 1) := by decide +kernel
theorem dX8_nextWeek_59 : decode cX8_nextWeek 59 = .ok (.putfield 380, 3) := by decide +kernel
theorem dX8_nextWeek_62 : decode cX8_nextWeek 62 = .ok (.aload_n 0, 1) := by decide +kernel
theorem dX8_nextWeek_63 : decode cX8_nextWeek 63 = .ok (.getfield 380, 3) := by decide +kernel
theorem dX8_nextWeek_66 : decode cX8_nextWeek 66 = .ok (.ireturn, 1) := by decide +kernel
theorem dX8_today_0 : decode cX8_today 0 = .ok (.aload_n 0, 1) := by decide +kernel
theorem dX8_today_1 : decode cX8_today 1 = .ok (.getfield 19, 3) := by decide +kernel
theorem dX8_today_4 : decode cX8_today 4 = .ok (.getfield 325, 3) := by decide +kernel
theorem dX8_today_7 : decode cX8_today 7 = .ok (.ireturn, 1) := by decide +kernel
theorem dX8_account_0 : decode cX8_account 0 = .ok (.aload_n 0, 1) := by decide +kernel
theorem dX8_account_1 : decode cX8_account 1 = .ok (.iload_n 1, 1) := by decide +kernel
theorem dX8_account_2 : decode cX8_account 2 = .ok (.invokevirtual 115, 3) := by decide +kernel
theorem dX8_account_5 : decode cX8_account 5 = .ok (.getfield 383, 3) := by decide +kernel
theorem dX8_account_8 : decode cX8_account 8 = .ok (.ireturn, 1) := by decide +kernel
theorem dX8_save_0 : decode cX8_save 0 = .ok (.aload_n 0, 1) := by decide +kernel
theorem dX8_save_1 : decode cX8_save 1 = .ok (.getfield 386, 3) := by decide +kernel
theorem dX8_save_4 : decode cX8_save 4 = .ok (.aload_n 0, 1) := by decide +kernel
theorem dX8_save_5 : decode cX8_save 5 = .ok (.getfield 46, 3) := by decide +kernel
theorem dX8_save_8 : decode cX8_save 8 = .ok (.arraylength, 1) := by decide +kernel
theorem dX8_save_9 : decode cX8_save 9 = .ok (.if_icmp .lt 14, 3) := by decide +kernel
theorem dX8_save_12 : decode cX8_save 12 = .ok (.new 74, 3) := by decide +kernel
theorem dX8_save_15 : decode cX8_save 15 = .ok (.dup, 1) := by decide +kernel
theorem dX8_save_16 : decode cX8_save 16 = .ok (.ldc_w 389, 3) := by decide +kernel
theorem dX8_save_19 : decode cX8_save 19 = .ok (.invokespecial 78, 3) := by decide +kernel
theorem dX8_save_22 : decode cX8_save 22 = .ok (.athrow, 1) := by decide +kernel
theorem dX8_save_23 : decode cX8_save 23 = .ok (.aload_n 0, 1) := by decide +kernel
theorem dX8_save_24 : decode cX8_save 24 = .ok (.getfield 19, 3) := by decide +kernel
theorem dX8_save_27 : decode cX8_save 27 = .ok (.aload_n 0, 1) := by decide +kernel
theorem dX8_save_28 : decode cX8_save 28 = .ok (.getfield 46, 3) := by decide +kernel
theorem dX8_save_31 : decode cX8_save 31 = .ok (.aload_n 0, 1) := by decide +kernel
theorem dX8_save_32 : decode cX8_save 32 = .ok (.getfield 386, 3) := by decide +kernel
theorem dX8_save_35 : decode cX8_save 35 = .ok (.aaload, 1) := by decide +kernel
theorem dX8_save_36 : decode cX8_save 36 = .ok (.invokevirtual 391, 3) := by decide +kernel
theorem dX8_save_39 : decode cX8_save 39 = .ok (.aload_n 0, 1) := by decide +kernel
theorem dX8_save_40 : decode cX8_save 40 = .ok (.dup, 1) := by decide +kernel
theorem dX8_save_41 : decode cX8_save 41 = .ok (.getfield 386, 3) := by decide +kernel
theorem dX8_save_44 : decode cX8_save 44 = .ok (.iconst 1, 1) := by decide +kernel
theorem dX8_save_45 : decode cX8_save 45 = .ok (.iadd, 1) := by decide +kernel
theorem dX8_save_46 : decode cX8_save 46 = .ok (.putfield 386, 3) := by decide +kernel
theorem dX8_save_49 : decode cX8_save 49 = .ok (.aload_n 0, 1) := by decide +kernel
theorem dX8_save_50 : decode cX8_save 50 = .ok (.getfield 386, 3) := by decide +kernel
theorem dX8_save_53 : decode cX8_save 53 = .ok (.iconst 1, 1) := by decide +kernel
theorem dX8_save_54 : decode cX8_save 54 = .ok (.isub, 1) := by decide +kernel
theorem dX8_save_55 : decode cX8_save 55 = .ok (.ireturn, 1) := by decide +kernel
theorem dX8_placeIn_0 : decode cX8_placeIn 0 = .ok (.aload_n 0, 1) := by decide +kernel
theorem dX8_placeIn_1 : decode cX8_placeIn 1 = .ok (.iload_n 1, 1) := by decide +kernel
theorem dX8_placeIn_2 : decode cX8_placeIn 2 = .ok (.invokevirtual 395, 3) := by decide +kernel
theorem dX8_placeIn_5 : decode cX8_placeIn 5 = .ok (.astore_n 3, 1) := by decide +kernel
theorem dX8_placeIn_6 : decode cX8_placeIn 6 = .ok (.aload_n 3, 1) := by decide +kernel
theorem dX8_placeIn_7 : decode cX8_placeIn 7 = .ok (.aload_n 0, 1) := by decide +kernel
theorem dX8_placeIn_8 : decode cX8_placeIn 8 = .ok (.iload_n 2, 1) := by decide +kernel
theorem dX8_placeIn_9 : decode cX8_placeIn 9 = .ok (.invokevirtual 149, 3) := by decide +kernel
theorem dX8_placeIn_12 : decode cX8_placeIn 12 = .ok (.getfield 251, 3) := by decide +kernel
theorem dX8_placeIn_15 : decode cX8_placeIn 15 = .ok (.invokestatic 308, 3) := by decide +kernel
theorem dX8_placeIn_18 : decode cX8_placeIn 18 = .ok (.istore 4, 2) := by decide +kernel
theorem dX8_placeIn_20 : decode cX8_placeIn 20 = .ok (.iload 4, 2) := by decide +kernel
theorem dX8_placeIn_22 : decode cX8_placeIn 22 = .ok (.iconst (-1), 1) := by decide +kernel
theorem dX8_placeIn_23 : decode cX8_placeIn 23 = .ok (.if_icmp .ne 14, 3) := by decide +kernel
theorem dX8_placeIn_26 : decode cX8_placeIn 26 = .ok (.new 190, 3) := by decide +kernel
theorem dX8_placeIn_29 : decode cX8_placeIn 29 = .ok (.dup, 1) := by decide +kernel
theorem dX8_placeIn_30 : decode cX8_placeIn 30 = .ok (.ldc_w 399, 3) := by decide +kernel
theorem dX8_placeIn_33 : decode cX8_placeIn 33 = .ok (.invokespecial 194, 3) := by decide +kernel
theorem dX8_placeIn_36 : decode cX8_placeIn 36 = .ok (.athrow, 1) := by decide +kernel
theorem dX8_placeIn_37 : decode cX8_placeIn 37 = .ok (.iload 4, 2) := by decide +kernel
theorem dX8_placeIn_39 : decode cX8_placeIn 39 = .ok (.ireturn, 1) := by decide +kernel
theorem dX8_differences_0 : decode cX8_differences 0 = .ok (.aload_n 0, 1) := by decide +kernel
theorem dX8_differences_1 : decode cX8_differences 1 = .ok (.iload_n 1, 1) := by decide +kernel
theorem dX8_differences_2 : decode cX8_differences 2 = .ok (.invokevirtual 395, 3) := by decide +kernel
theorem dX8_differences_5 : decode cX8_differences 5 = .ok (.astore_n 3, 1) := by decide +kernel
theorem dX8_differences_6 : decode cX8_differences 6 = .ok (.aload_n 0, 1) := by decide +kernel
theorem dX8_differences_7 : decode cX8_differences 7 = .ok (.iload_n 2, 1) := by decide +kernel
theorem dX8_differences_8 : decode cX8_differences 8 = .ok (.invokevirtual 395, 3) := by decide +kernel
theorem dX8_differences_11 : decode cX8_differences 11 = .ok (.astore 4, 2) := by decide +kernel
theorem dX8_differences_13 : decode cX8_differences 13 = .ok (.iconst 0, 1) := by decide +kernel
theorem dX8_differences_14 : decode cX8_differences 14 = .ok (.istore 5, 2) := by decide +kernel
theorem dX8_differences_16 : decode cX8_differences 16 = .ok (.iconst 0, 1) := by decide +kernel
theorem dX8_differences_17 : decode cX8_differences 17 = .ok (.istore 6, 2) := by decide +kernel
theorem dX8_differences_19 : decode cX8_differences 19 = .ok (.iload 6, 2) := by decide +kernel
theorem dX8_differences_21 : decode cX8_differences 21 = .ok (.bipush 16, 2) := by decide +kernel
theorem dX8_differences_23 : decode cX8_differences 23 = .ok (.if_icmp .ge 28, 3) := by decide +kernel
theorem dX8_differences_26 : decode cX8_differences 26 = .ok (.aload_n 3, 1) := by decide +kernel
theorem dX8_differences_27 : decode cX8_differences 27 = .ok (.iload 6, 2) := by decide +kernel
theorem dX8_differences_29 : decode cX8_differences 29 = .ok (.invokestatic 308, 3) := by decide +kernel
theorem dX8_differences_32 : decode cX8_differences 32 = .ok (.aload 4, 2) := by decide +kernel
theorem dX8_differences_34 : decode cX8_differences 34 = .ok (.iload 6, 2) := by decide +kernel
theorem dX8_differences_36 : decode cX8_differences 36 = .ok (.invokestatic 308, 3) := by decide +kernel
theorem dX8_differences_39 : decode cX8_differences 39 = .ok (.if_icmp .eq 6, 3) := by decide +kernel
theorem dX8_differences_42 : decode cX8_differences 42 = .ok (.iinc 5 1, 3) := by decide +kernel
theorem dX8_differences_45 : decode cX8_differences 45 = .ok (.iinc 6 1, 3) := by decide +kernel
theorem dX8_differences_48 : decode cX8_differences 48 = .ok (.goto (-29), 3) := by decide +kernel
theorem dX8_differences_51 : decode cX8_differences 51 = .ok (.iload 5, 2) := by decide +kernel
theorem dX8_differences_53 : decode cX8_differences 53 = .ok (.ireturn, 1) := by decide +kernel
theorem dX8_restore_0 : decode cX8_restore 0 = .ok (.aload_n 0, 1) := by decide +kernel
theorem dX8_restore_1 : decode cX8_restore 1 = .ok (.iload_n 1, 1) := by decide +kernel
theorem dX8_restore_2 : decode cX8_restore 2 = .ok (.invokevirtual 395, 3) := by decide +kernel
theorem dX8_restore_5 : decode cX8_restore 5 = .ok (.astore_n 2, 1) := by decide +kernel
theorem dX8_restore_6 : decode cX8_restore 6 = .ok (.aload_n 0, 1) := by decide +kernel
theorem dX8_restore_7 : decode cX8_restore 7 = .ok (.getfield 19, 3) := by decide +kernel
theorem dX8_restore_10 : decode cX8_restore 10 = .ok (.aload_n 2, 1) := by decide +kernel
theorem dX8_restore_11 : decode cX8_restore 11 = .ok (.invokevirtual 401, 3) := by decide +kernel
theorem dX8_restore_14 : decode cX8_restore 14 = .ok (.iconst 0, 1) := by decide +kernel
theorem dX8_restore_15 : decode cX8_restore 15 = .ok (.istore_n 3, 1) := by decide +kernel
theorem dX8_restore_16 : decode cX8_restore 16 = .ok (.iconst 0, 1) := by decide +kernel
theorem dX8_restore_17 : decode cX8_restore 17 = .ok (.istore 4, 2) := by decide +kernel
theorem dX8_restore_19 : decode cX8_restore 19 = .ok (.iload 4, 2) := by decide +kernel
theorem dX8_restore_21 : decode cX8_restore 21 = .ok (.aload_n 0, 1) := by decide +kernel
theorem dX8_restore_22 : decode cX8_restore 22 = .ok (.getfield 19, 3) := by decide +kernel
theorem dX8_restore_25 : decode cX8_restore 25 = .ok (.getfield 121, 3) := by decide +kernel
theorem dX8_restore_28 : decode cX8_restore 28 = .ok (.invokevirtual 70, 3) := by decide +kernel
theorem dX8_restore_31 : decode cX8_restore 31 = .ok (.if_icmp .ge 39, 3) := by decide +kernel
theorem dX8_restore_34 : decode cX8_restore 34 = .ok (.aload_n 0, 1) := by decide +kernel
theorem dX8_restore_35 : decode cX8_restore 35 = .ok (.getfield 19, 3) := by decide +kernel
theorem dX8_restore_38 : decode cX8_restore 38 = .ok (.getfield 121, 3) := by decide +kernel
theorem dX8_restore_41 : decode cX8_restore 41 = .ok (.iload 4, 2) := by decide +kernel
theorem dX8_restore_43 : decode cX8_restore 43 = .ok (.invokevirtual 186, 3) := by decide +kernel
theorem dX8_restore_46 : decode cX8_restore 46 = .ok (.checkcast 126, 3) := by decide +kernel
theorem dX8_restore_49 : decode cX8_restore 49 = .ok (.invokevirtual 239, 3) := by decide +kernel
theorem dX8_restore_52 : decode cX8_restore 52 = .ok (.aload_n 2, 1) := by decide +kernel
theorem dX8_restore_53 : decode cX8_restore 53 = .ok (.iload 4, 2) := by decide +kernel
theorem dX8_restore_55 : decode cX8_restore 55 = .ok (.invokestatic 308, 3) := by decide +kernel
theorem dX8_restore_58 : decode cX8_restore 58 = .ok (.if_icmp .eq 6, 3) := by decide +kernel
theorem dX8_restore_61 : decode cX8_restore 61 = .ok (.iinc 3 1, 3) := by decide +kernel
theorem dX8_restore_64 : decode cX8_restore 64 = .ok (.iinc 4 1, 3) := by decide +kernel
theorem dX8_restore_67 : decode cX8_restore 67 = .ok (.goto (-48), 3) := by decide +kernel
theorem dX8_restore_70 : decode cX8_restore 70 = .ok (.iload_n 3, 1) := by decide +kernel
theorem dX8_restore_71 : decode cX8_restore 71 = .ok (.ireturn, 1) := by decide +kernel
theorem dX8_merge_0 : decode cX8_merge 0 = .ok (.aload_n 0, 1) := by decide +kernel
theorem dX8_merge_1 : decode cX8_merge 1 = .ok (.iload_n 1, 1) := by decide +kernel
theorem dX8_merge_2 : decode cX8_merge 2 = .ok (.invokevirtual 395, 3) := by decide +kernel
theorem dX8_merge_5 : decode cX8_merge 5 = .ok (.astore_n 3, 1) := by decide +kernel
theorem dX8_merge_6 : decode cX8_merge 6 = .ok (.aload_n 0, 1) := by decide +kernel
theorem dX8_merge_7 : decode cX8_merge 7 = .ok (.iload_n 2, 1) := by decide +kernel
theorem dX8_merge_8 : decode cX8_merge 8 = .ok (.invokevirtual 395, 3) := by decide +kernel
theorem dX8_merge_11 : decode cX8_merge 11 = .ok (.astore 4, 2) := by decide +kernel
theorem dX8_merge_13 : decode cX8_merge 13 = .ok (.aload_n 0, 1) := by decide +kernel
theorem dX8_merge_14 : decode cX8_merge 14 = .ok (.getfield 19, 3) := by decide +kernel
theorem dX8_merge_17 : decode cX8_merge 17 = .ok (.aload_n 0, 1) := by decide +kernel
theorem dX8_merge_18 : decode cX8_merge 18 = .ok (.getfield 49, 3) := by decide +kernel
theorem dX8_merge_21 : decode cX8_merge 21 = .ok (.invokevirtual 391, 3) := by decide +kernel
theorem dX8_merge_24 : decode cX8_merge 24 = .ok (.iconst 0, 1) := by decide +kernel
theorem dX8_merge_25 : decode cX8_merge 25 = .ok (.istore 5, 2) := by decide +kernel
theorem dX8_merge_27 : decode cX8_merge 27 = .ok (.iconst 0, 1) := by decide +kernel
theorem dX8_merge_28 : decode cX8_merge 28 = .ok (.istore 6, 2) := by decide +kernel
theorem dX8_merge_30 : decode cX8_merge 30 = .ok (.iload 6, 2) := by decide +kernel
theorem dX8_merge_32 : decode cX8_merge 32 = .ok (.aload_n 0, 1) := by decide +kernel
theorem dX8_merge_33 : decode cX8_merge 33 = .ok (.getfield 19, 3) := by decide +kernel
theorem dX8_merge_36 : decode cX8_merge 36 = .ok (.getfield 121, 3) := by decide +kernel
theorem dX8_merge_39 : decode cX8_merge 39 = .ok (.invokevirtual 70, 3) := by decide +kernel
theorem dX8_merge_42 : decode cX8_merge 42 = .ok (.if_icmp .ge 117, 3) := by decide +kernel
theorem dX8_merge_45 : decode cX8_merge 45 = .ok (.iload 6, 2) := by decide +kernel
theorem dX8_merge_47 : decode cX8_merge 47 = .ok (.aload_n 0, 1) := by decide +kernel
theorem dX8_merge_48 : decode cX8_merge 48 = .ok (.getfield 49, 3) := by decide +kernel
theorem dX8_merge_51 : decode cX8_merge 51 = .ok (.arraylength, 1) := by decide +kernel
theorem dX8_merge_52 : decode cX8_merge 52 = .ok (.if_icmp .ge 107, 3) := by decide +kernel
theorem dX8_merge_55 : decode cX8_merge 55 = .ok (.aload 4, 2) := by decide +kernel
theorem dX8_merge_57 : decode cX8_merge 57 = .ok (.iload 6, 2) := by decide +kernel
theorem dX8_merge_59 : decode cX8_merge 59 = .ok (.invokestatic 308, 3) := by decide +kernel
theorem dX8_merge_62 : decode cX8_merge 62 = .ok (.aload_n 3, 1) := by decide +kernel
theorem dX8_merge_63 : decode cX8_merge 63 = .ok (.iload 6, 2) := by decide +kernel
theorem dX8_merge_65 : decode cX8_merge 65 = .ok (.invokestatic 308, 3) := by decide +kernel
theorem dX8_merge_68 : decode cX8_merge 68 = .ok (.if_icmp .eq 7, 3) := by decide +kernel
theorem dX8_merge_71 : decode cX8_merge 71 = .ok (.iconst 1, 1) := by decide +kernel
theorem dX8_merge_72 : decode cX8_merge 72 = .ok (.goto 4, 3) := by decide +kernel
theorem dX8_merge_75 : decode cX8_merge 75 = .ok (.iconst 0, 1) := by decide +kernel
theorem dX8_merge_76 : decode cX8_merge 76 = .ok (.istore 7, 2) := by decide +kernel
theorem dX8_merge_78 : decode cX8_merge 78 = .ok (.aload_n 0, 1) := by decide +kernel
theorem dX8_merge_79 : decode cX8_merge 79 = .ok (.getfield 49, 3) := by decide +kernel
theorem dX8_merge_82 : decode cX8_merge 82 = .ok (.iload 6, 2) := by decide +kernel
theorem dX8_merge_84 : decode cX8_merge 84 = .ok (.iaload, 1) := by decide +kernel
theorem dX8_merge_85 : decode cX8_merge 85 = .ok (.aload_n 3, 1) := by decide +kernel
theorem dX8_merge_86 : decode cX8_merge 86 = .ok (.iload 6, 2) := by decide +kernel
theorem dX8_merge_88 : decode cX8_merge 88 = .ok (.invokestatic 308, 3) := by decide +kernel
theorem dX8_merge_91 : decode cX8_merge 91 = .ok (.if_icmp .eq 7, 3) := by decide +kernel
theorem dX8_merge_94 : decode cX8_merge 94 = .ok (.iconst 1, 1) := by decide +kernel
theorem dX8_merge_95 : decode cX8_merge 95 = .ok (.goto 4, 3) := by decide +kernel
theorem dX8_merge_98 : decode cX8_merge 98 = .ok (.iconst 0, 1) := by decide +kernel
theorem dX8_merge_99 : decode cX8_merge 99 = .ok (.istore 8, 2) := by decide +kernel
theorem dX8_merge_101 : decode cX8_merge 101 = .ok (.iload 7, 2) := by decide +kernel
theorem dX8_merge_103 : decode cX8_merge 103 = .ok (.ifCond .eq 25, 3) := by decide +kernel
theorem dX8_merge_106 : decode cX8_merge 106 = .ok (.iload 8, 2) := by decide +kernel
theorem dX8_merge_108 : decode cX8_merge 108 = .ok (.ifCond .ne 20, 3) := by decide +kernel
theorem dX8_merge_111 : decode cX8_merge 111 = .ok (.aload_n 0, 1) := by decide +kernel
theorem dX8_merge_112 : decode cX8_merge 112 = .ok (.getfield 49, 3) := by decide +kernel
theorem dX8_merge_115 : decode cX8_merge 115 = .ok (.iload 6, 2) := by decide +kernel
theorem dX8_merge_117 : decode cX8_merge 117 = .ok (.aload 4, 2) := by decide +kernel
theorem dX8_merge_119 : decode cX8_merge 119 = .ok (.iload 6, 2) := by decide +kernel
theorem dX8_merge_121 : decode cX8_merge 121 = .ok (.invokestatic 308, 3) := by decide +kernel
theorem dX8_merge_124 : decode cX8_merge 124 = .ok (.iastore, 1) := by decide +kernel
theorem dX8_merge_125 : decode cX8_merge 125 = .ok (.goto 28, 3) := by decide +kernel
theorem dX8_merge_128 : decode cX8_merge 128 = .ok (.iload 7, 2) := by decide +kernel
theorem dX8_merge_130 : decode cX8_merge 130 = .ok (.ifCond .eq 23, 3) := by decide +kernel
theorem dX8_merge_133 : decode cX8_merge 133 = .ok (.aload_n 0, 1) := by decide +kernel
theorem dX8_merge_134 : decode cX8_merge 134 = .ok (.getfield 49, 3) := by decide +kernel
theorem dX8_merge_137 : decode cX8_merge 137 = .ok (.iload 6, 2) := by decide +kernel
theorem dX8_merge_139 : decode cX8_merge 139 = .ok (.iaload, 1) := by decide +kernel
theorem dX8_merge_140 : decode cX8_merge 140 = .ok (.aload 4, 2) := by decide +kernel
theorem dX8_merge_142 : decode cX8_merge 142 = .ok (.iload 6, 2) := by decide +kernel
theorem dX8_merge_144 : decode cX8_merge 144 = .ok (.invokestatic 308, 3) := by decide +kernel
theorem dX8_merge_147 : decode cX8_merge 147 = .ok (.if_icmp .eq 6, 3) := by decide +kernel
theorem dX8_merge_150 : decode cX8_merge 150 = .ok (.iinc 5 1, 3) := by decide +kernel
theorem dX8_merge_153 : decode cX8_merge 153 = .ok (.iinc 6 1, 3) := by decide +kernel
theorem dX8_merge_156 : decode cX8_merge 156 = .ok (.goto (-126), 3) := by decide +kernel
theorem dX8_merge_159 : decode cX8_merge 159 = .ok (.aload_n 0, 1) := by decide +kernel
theorem dX8_merge_160 : decode cX8_merge 160 = .ok (.getfield 19, 3) := by decide +kernel
theorem dX8_merge_163 : decode cX8_merge 163 = .ok (.aload_n 0, 1) := by decide +kernel
theorem dX8_merge_164 : decode cX8_merge 164 = .ok (.getfield 49, 3) := by decide +kernel
theorem dX8_merge_167 : decode cX8_merge 167 = .ok (.invokevirtual 401, 3) := by decide +kernel
theorem dX8_merge_170 : decode cX8_merge 170 = .ok (.iload 5, 2) := by decide +kernel
theorem dX8_merge_172 : decode cX8_merge 172 = .ok (.ireturn, 1) := by decide +kernel
theorem dX8_placedShare_0 : decode cX8_placedShare 0 = .ok (.aload_n 0, 1) := by decide +kernel
theorem dX8_placedShare_1 : decode cX8_placedShare 1 = .ok (.getfield 19, 3) := by decide +kernel
theorem dX8_placedShare_4 : decode cX8_placedShare 4 = .ok (.getfield 121, 3) := by decide +kernel
theorem dX8_placedShare_7 : decode cX8_placedShare 7 = .ok (.invokevirtual 70, 3) := by decide +kernel
theorem dX8_placedShare_10 : decode cX8_placedShare 10 = .ok (.istore_n 1, 1) := by decide +kernel
theorem dX8_placedShare_11 : decode cX8_placedShare 11 = .ok (.iload_n 1, 1) := by decide +kernel
theorem dX8_placedShare_12 : decode cX8_placedShare 12 = .ok (.ifCond .ne 14, 3) := by decide +kernel
theorem dX8_placedShare_15 : decode cX8_placedShare 15 = .ok (.new 404, 3) := by decide +kernel
theorem dX8_placedShare_18 : decode cX8_placedShare 18 = .ok (.dup, 1) := by decide +kernel
theorem dX8_placedShare_19 : decode cX8_placedShare 19 = .ok (.ldc_w 406, 3) := by decide +kernel
theorem dX8_placedShare_22 : decode cX8_placedShare 22 = .ok (.invokespecial 408, 3) := by decide +kernel
theorem dX8_placedShare_25 : decode cX8_placedShare 25 = .ok (.athrow, 1) := by decide +kernel
theorem dX8_placedShare_26 : decode cX8_placedShare 26 = .ok (.iload_n 1, 1) := by decide +kernel
theorem dX8_placedShare_27 : decode cX8_placedShare 27 = .ok (.aload_n 0, 1) := by decide +kernel
theorem dX8_placedShare_28 : decode cX8_placedShare 28 = .ok (.getfield 19, 3) := by decide +kernel
theorem dX8_placedShare_31 : decode cX8_placedShare 31 = .ok (.invokevirtual 281, 3) := by decide +kernel
theorem dX8_placedShare_34 : decode cX8_placedShare 34 = .ok (.invokestatic 202, 3) := by decide +kernel
theorem dX8_placedShare_37 : decode cX8_placedShare 37 = .ok (.isub, 1) := by decide +kernel
theorem dX8_placedShare_38 : decode cX8_placedShare 38 = .ok (.istore_n 2, 1) := by decide +kernel
theorem dX8_placedShare_39 : decode cX8_placedShare 39 = .ok (.iload_n 2, 1) := by decide +kernel
theorem dX8_placedShare_40 : decode cX8_placedShare 40 = .ok (.i2f, 1) := by decide +kernel
theorem dX8_placedShare_41 : decode cX8_placedShare 41 = .ok (.iload_n 1, 1) := by decide +kernel
theorem dX8_placedShare_42 : decode cX8_placedShare 42 = .ok (.i2f, 1) := by decide +kernel
theorem dX8_placedShare_43 : decode cX8_placedShare 43 = .ok (.fdiv, 1) := by decide +kernel
theorem dX8_placedShare_44 : decode cX8_placedShare 44 = .ok (.freturn, 1) := by decide +kernel
theorem dX8_meanPossible_0 : decode cX8_meanPossible 0 = .ok (.aload_n 0, 1) := by decide +kernel
theorem dX8_meanPossible_1 : decode cX8_meanPossible 1 = .ok (.getfield 19, 3) := by decide +kernel
theorem dX8_meanPossible_4 : decode cX8_meanPossible 4 = .ok (.getfield 121, 3) := by decide +kernel
theorem dX8_meanPossible_7 : decode cX8_meanPossible 7 = .ok (.invokevirtual 70, 3) := by decide +kernel
theorem dX8_meanPossible_10 : decode cX8_meanPossible 10 = .ok (.istore_n 1, 1) := by decide +kernel
theorem dX8_meanPossible_11 : decode cX8_meanPossible 11 = .ok (.iload_n 1, 1) := by decide +kernel
theorem dX8_meanPossible_12 : decode cX8_meanPossible 12 = .ok (.ifCond .ne 14, 3) := by decide +kernel
theorem dX8_meanPossible_15 : decode cX8_meanPossible 15 = .ok (.new 404, 3) := by decide +kernel
theorem dX8_meanPossible_18 : decode cX8_meanPossible 18 = .ok (.dup, 1) := by decide +kernel
theorem dX8_meanPossible_19 : decode cX8_meanPossible 19 = .ok (.ldc_w 406, 3) := by decide +kernel
theorem dX8_meanPossible_22 : decode cX8_meanPossible 22 = .ok (.invokespecial 408, 3) := by decide +kernel
theorem dX8_meanPossible_25 : decode cX8_meanPossible 25 = .ok (.athrow, 1) := by decide +kernel
theorem dX8_meanPossible_26 : decode cX8_meanPossible 26 = .ok (.iconst 0, 1) := by decide +kernel
theorem dX8_meanPossible_27 : decode cX8_meanPossible 27 = .ok (.istore_n 2, 1) := by decide +kernel
theorem dX8_meanPossible_28 : decode cX8_meanPossible 28 = .ok (.iconst 0, 1) := by decide +kernel
theorem dX8_meanPossible_29 : decode cX8_meanPossible 29 = .ok (.istore_n 3, 1) := by decide +kernel
theorem dX8_meanPossible_30 : decode cX8_meanPossible 30 = .ok (.iload_n 3, 1) := by decide +kernel
theorem dX8_meanPossible_31 : decode cX8_meanPossible 31 = .ok (.iload_n 1, 1) := by decide +kernel
theorem dX8_meanPossible_32 : decode cX8_meanPossible 32 = .ok (.if_icmp .ge 33, 3) := by decide +kernel
theorem dX8_meanPossible_35 : decode cX8_meanPossible 35 = .ok (.iload_n 2, 1) := by decide +kernel
theorem dX8_meanPossible_36 : decode cX8_meanPossible 36 = .ok (.aload_n 0, 1) := by decide +kernel
theorem dX8_meanPossible_37 : decode cX8_meanPossible 37 = .ok (.getfield 19, 3) := by decide +kernel
theorem dX8_meanPossible_40 : decode cX8_meanPossible 40 = .ok (.aload_n 0, 1) := by decide +kernel
theorem dX8_meanPossible_41 : decode cX8_meanPossible 41 = .ok (.getfield 19, 3) := by decide +kernel
theorem dX8_meanPossible_44 : decode cX8_meanPossible 44 = .ok (.getfield 121, 3) := by decide +kernel
theorem dX8_meanPossible_47 : decode cX8_meanPossible 47 = .ok (.iload_n 3, 1) := by decide +kernel
theorem dX8_meanPossible_48 : decode cX8_meanPossible 48 = .ok (.invokevirtual 186, 3) := by decide +kernel
theorem dX8_meanPossible_51 : decode cX8_meanPossible 51 = .ok (.checkcast 126, 3) := by decide +kernel
theorem dX8_meanPossible_54 : decode cX8_meanPossible 54 = .ok (.invokevirtual 263, 3) := by decide +kernel
theorem dX8_meanPossible_57 : decode cX8_meanPossible 57 = .ok (.iadd, 1) := by decide +kernel
theorem dX8_meanPossible_58 : decode cX8_meanPossible 58 = .ok (.istore_n 2, 1) := by decide +kernel
theorem dX8_meanPossible_59 : decode cX8_meanPossible 59 = .ok (.iinc 3 1, 3) := by decide +kernel
theorem dX8_meanPossible_62 : decode cX8_meanPossible 62 = .ok (.goto (-32), 3) := by decide +kernel
theorem dX8_meanPossible_65 : decode cX8_meanPossible 65 = .ok (.iload_n 2, 1) := by decide +kernel
theorem dX8_meanPossible_66 : decode cX8_meanPossible 66 = .ok (.i2d, 1) := by decide +kernel
theorem dX8_meanPossible_67 : decode cX8_meanPossible 67 = .ok (.iload_n 1, 1) := by decide +kernel
theorem dX8_meanPossible_68 : decode cX8_meanPossible 68 = .ok (.i2d, 1) := by decide +kernel
theorem dX8_meanPossible_69 : decode cX8_meanPossible 69 = .ok (.ddiv, 1) := by decide +kernel
theorem dX8_meanPossible_70 : decode cX8_meanPossible 70 = .ok (.dreturn, 1) := by decide +kernel
theorem dX8_isSound_0 : decode cX8_isSound 0 = .ok (.aload_n 0, 1) := by decide +kernel
theorem dX8_isSound_1 : decode cX8_isSound 1 = .ok (.invokevirtual 409, 3) := by decide +kernel
theorem dX8_isSound_4 : decode cX8_isSound 4 = .ok (.aload_n 0, 1) := by decide +kernel
theorem dX8_isSound_5 : decode cX8_isSound 5 = .ok (.invokevirtual 412, 3) := by decide +kernel
theorem dX8_isSound_8 : decode cX8_isSound 8 = .ok (.if_icmp .ne 10, 3) := by decide +kernel
theorem dX8_isSound_11 : decode cX8_isSound 11 = .ok (.aload_n 0, 1) := by decide +kernel
theorem dX8_isSound_12 : decode cX8_isSound 12 = .ok (.invokevirtual 415, 3) := by decide +kernel
theorem dX8_isSound_15 : decode cX8_isSound 15 = .ok (.ifCond .eq 5, 3) := by decide +kernel
theorem dX8_isSound_18 : decode cX8_isSound 18 = .ok (.iconst 0, 1) := by decide +kernel
theorem dX8_isSound_19 : decode cX8_isSound 19 = .ok (.ireturn, 1) := by decide +kernel
theorem dX8_isSound_20 : decode cX8_isSound 20 = .ok (.iconst 0, 1) := by decide +kernel
theorem dX8_isSound_21 : decode cX8_isSound 21 = .ok (.istore_n 1, 1) := by decide +kernel
theorem dX8_isSound_22 : decode cX8_isSound 22 = .ok (.iload_n 1, 1) := by decide +kernel
theorem dX8_isSound_23 : decode cX8_isSound 23 = .ok (.iconst 4, 1) := by decide +kernel
theorem dX8_isSound_24 : decode cX8_isSound 24 = .ok (.if_icmp .ge 38, 3) := by decide +kernel
theorem dX8_isSound_27 : decode cX8_isSound 27 = .ok (.aload_n 0, 1) := by decide +kernel
theorem dX8_isSound_28 : decode cX8_isSound 28 = .ok (.getfield 40, 3) := by decide +kernel
theorem dX8_isSound_31 : decode cX8_isSound 31 = .ok (.aload_n 0, 1) := by decide +kernel
theorem dX8_isSound_32 : decode cX8_isSound 32 = .ok (.getfield 19, 3) := by decide +kernel
theorem dX8_isSound_35 : decode cX8_isSound 35 = .ok (.iload_n 1, 1) := by decide +kernel
theorem dX8_isSound_36 : decode cX8_isSound 36 = .ok (.invokevirtual 318, 3) := by decide +kernel
theorem dX8_isSound_39 : decode cX8_isSound 39 = .ok (.aload_n 0, 1) := by decide +kernel
theorem dX8_isSound_40 : decode cX8_isSound 40 = .ok (.getfield 40, 3) := by decide +kernel
theorem dX8_isSound_43 : decode cX8_isSound 43 = .ok (.aload_n 0, 1) := by decide +kernel
theorem dX8_isSound_44 : decode cX8_isSound 44 = .ok (.getfield 19, 3) := by decide +kernel
theorem dX8_isSound_47 : decode cX8_isSound 47 = .ok (.iload_n 1, 1) := by decide +kernel
theorem dX8_isSound_48 : decode cX8_isSound 48 = .ok (.invokevirtual 322, 3) := by decide +kernel
theorem dX8_isSound_51 : decode cX8_isSound 51 = .ok (.if_icmp .eq 5, 3) := by decide +kernel
theorem dX8_isSound_54 : decode cX8_isSound 54 = .ok (.iconst 0, 1) := by decide +kernel
theorem dX8_isSound_55 : decode cX8_isSound 55 = .ok (.ireturn, 1) := by decide +kernel
theorem dX8_isSound_56 : decode cX8_isSound 56 = .ok (.iinc 1 1, 3) := by decide +kernel
theorem dX8_isSound_59 : decode cX8_isSound 59 = .ok (.goto (-37), 3) := by decide +kernel
theorem dX8_isSound_62 : decode cX8_isSound 62 = .ok (.iconst 1, 1) := by decide +kernel
theorem dX8_isSound_63 : decode cX8_isSound 63 = .ok (.ireturn, 1) := by decide +kernel
theorem dX8_roomNumbered_0 : decode cX8_roomNumbered 0 = .ok (.iload_n 1, 1) := by decide +kernel
theorem dX8_roomNumbered_1 : decode cX8_roomNumbered 1 = .ok (.ifCond .lt 17, 3) := by decide +kernel
theorem dX8_roomNumbered_4 : decode cX8_roomNumbered 4 = .ok (.iload_n 1, 1) := by decide +kernel
theorem dX8_roomNumbered_5 : decode cX8_roomNumbered 5 = .ok (.aload_n 0, 1) := by decide +kernel
theorem dX8_roomNumbered_6 : decode cX8_roomNumbered 6 = .ok (.getfield 19, 3) := by decide +kernel
theorem dX8_roomNumbered_9 : decode cX8_roomNumbered 9 = .ok (.getfield 67, 3) := by decide +kernel
theorem dX8_roomNumbered_12 : decode cX8_roomNumbered 12 = .ok (.invokevirtual 70, 3) := by decide +kernel
theorem dX8_roomNumbered_15 : decode cX8_roomNumbered 15 = .ok (.if_icmp .lt 14, 3) := by decide +kernel
theorem dX8_roomNumbered_18 : decode cX8_roomNumbered 18 = .ok (.new 418, 3) := by decide +kernel
theorem dX8_roomNumbered_21 : decode cX8_roomNumbered 21 = .ok (.dup, 1) := by decide +kernel
theorem dX8_roomNumbered_22 : decode cX8_roomNumbered 22 = .ok (.ldc_w 420, 3) := by decide +kernel
theorem dX8_roomNumbered_25 : decode cX8_roomNumbered 25 = .ok (.invokespecial 422, 3) := by decide +kernel
theorem dX8_roomNumbered_28 : decode cX8_roomNumbered 28 = .ok (.athrow, 1) := by decide +kernel
theorem dX8_roomNumbered_29 : decode cX8_roomNumbered 29 = .ok (.aload_n 0, 1) := by decide +kernel
theorem dX8_roomNumbered_30 : decode cX8_roomNumbered 30 = .ok (.getfield 19, 3) := by decide +kernel
theorem dX8_roomNumbered_33 : decode cX8_roomNumbered 33 = .ok (.getfield 67, 3) := by decide +kernel
theorem dX8_roomNumbered_36 : decode cX8_roomNumbered 36 = .ok (.iload_n 1, 1) := by decide +kernel
theorem dX8_roomNumbered_37 : decode cX8_roomNumbered 37 = .ok (.invokevirtual 186, 3) := by decide +kernel
theorem dX8_roomNumbered_40 : decode cX8_roomNumbered 40 = .ok (.checkcast 79, 3) := by decide +kernel
theorem dX8_roomNumbered_43 : decode cX8_roomNumbered 43 = .ok (.areturn, 1) := by decide +kernel
theorem dX8_teacherNumbered_0 : decode cX8_teacherNumbered 0 = .ok (.iload_n 1, 1) := by decide +kernel
theorem dX8_teacherNumbered_1 : decode cX8_teacherNumbered 1 = .ok (.ifCond .lt 14, 3) := by decide +kernel
theorem dX8_teacherNumbered_4 : decode cX8_teacherNumbered 4 = .ok (.iload_n 1, 1) := by decide +kernel
theorem dX8_teacherNumbered_5 : decode cX8_teacherNumbered 5 = .ok (.aload_n 0, 1) := by decide +kernel
theorem dX8_teacherNumbered_6 : decode cX8_teacherNumbered 6 = .ok (.getfield 12, 3) := by decide +kernel
theorem dX8_teacherNumbered_9 : decode cX8_teacherNumbered 9 = .ok (.invokevirtual 70, 3) := by decide +kernel
theorem dX8_teacherNumbered_12 : decode cX8_teacherNumbered 12 = .ok (.if_icmp .lt 14, 3) := by decide +kernel
theorem dX8_teacherNumbered_15 : decode cX8_teacherNumbered 15 = .ok (.new 418, 3) := by decide +kernel
theorem dX8_teacherNumbered_18 : decode cX8_teacherNumbered 18 = .ok (.dup, 1) := by decide +kernel
theorem dX8_teacherNumbered_19 : decode cX8_teacherNumbered 19 = .ok (.ldc_w 423, 3) := by decide +kernel
theorem dX8_teacherNumbered_22 : decode cX8_teacherNumbered 22 = .ok (.invokespecial 422, 3) := by decide +kernel
theorem dX8_teacherNumbered_25 : decode cX8_teacherNumbered 25 = .ok (.athrow, 1) := by decide +kernel
theorem dX8_teacherNumbered_26 : decode cX8_teacherNumbered 26 = .ok (.aload_n 0, 1) := by decide +kernel
theorem dX8_teacherNumbered_27 : decode cX8_teacherNumbered 27 = .ok (.getfield 12, 3) := by decide +kernel
theorem dX8_teacherNumbered_30 : decode cX8_teacherNumbered 30 = .ok (.iload_n 1, 1) := by decide +kernel
theorem dX8_teacherNumbered_31 : decode cX8_teacherNumbered 31 = .ok (.invokevirtual 186, 3) := by decide +kernel
theorem dX8_teacherNumbered_34 : decode cX8_teacherNumbered 34 = .ok (.checkcast 92, 3) := by decide +kernel
theorem dX8_teacherNumbered_37 : decode cX8_teacherNumbered 37 = .ok (.areturn, 1) := by decide +kernel
theorem dX8_groupNumbered_0 : decode cX8_groupNumbered 0 = .ok (.iload_n 1, 1) := by decide +kernel
theorem dX8_groupNumbered_1 : decode cX8_groupNumbered 1 = .ok (.ifCond .lt 17, 3) := by decide +kernel
theorem dX8_groupNumbered_4 : decode cX8_groupNumbered 4 = .ok (.iload_n 1, 1) := by decide +kernel
theorem dX8_groupNumbered_5 : decode cX8_groupNumbered 5 = .ok (.aload_n 0, 1) := by decide +kernel
theorem dX8_groupNumbered_6 : decode cX8_groupNumbered 6 = .ok (.getfield 19, 3) := by decide +kernel
theorem dX8_groupNumbered_9 : decode cX8_groupNumbered 9 = .ok (.getfield 103, 3) := by decide +kernel
theorem dX8_groupNumbered_12 : decode cX8_groupNumbered 12 = .ok (.invokevirtual 70, 3) := by decide +kernel
theorem dX8_groupNumbered_15 : decode cX8_groupNumbered 15 = .ok (.if_icmp .lt 14, 3) := by decide +kernel
theorem dX8_groupNumbered_18 : decode cX8_groupNumbered 18 = .ok (.new 418, 3) := by decide +kernel
theorem dX8_groupNumbered_21 : decode cX8_groupNumbered 21 = .ok (.dup, 1) := by decide +kernel
theorem dX8_groupNumbered_22 : decode cX8_groupNumbered 22 = .ok (.ldc_w 425, 3) := by decide +kernel
theorem dX8_groupNumbered_25 : decode cX8_groupNumbered 25 = .ok (.invokespecial 422, 3) := by decide +kernel
theorem dX8_groupNumbered_28 : decode cX8_groupNumbered 28 = .ok (.athrow, 1) := by decide +kernel
theorem dX8_groupNumbered_29 : decode cX8_groupNumbered 29 = .ok (.aload_n 0, 1) := by decide +kernel
theorem dX8_groupNumbered_30 : decode cX8_groupNumbered 30 = .ok (.getfield 19, 3) := by decide +kernel
theorem dX8_groupNumbered_33 : decode cX8_groupNumbered 33 = .ok (.getfield 103, 3) := by decide +kernel
theorem dX8_groupNumbered_36 : decode cX8_groupNumbered 36 = .ok (.iload_n 1, 1) := by decide +kernel
theorem dX8_groupNumbered_37 : decode cX8_groupNumbered 37 = .ok (.invokevirtual 186, 3) := by decide +kernel
theorem dX8_groupNumbered_40 : decode cX8_groupNumbered 40 = .ok (.checkcast 108, 3) := by decide +kernel
theorem dX8_groupNumbered_43 : decode cX8_groupNumbered 43 = .ok (.areturn, 1) := by decide +kernel
theorem dX8_lessonNumbered_0 : decode cX8_lessonNumbered 0 = .ok (.iload_n 1, 1) := by decide +kernel
theorem dX8_lessonNumbered_1 : decode cX8_lessonNumbered 1 = .ok (.ifCond .lt 17, 3) := by decide +kernel
theorem dX8_lessonNumbered_4 : decode cX8_lessonNumbered 4 = .ok (.iload_n 1, 1) := by decide +kernel
theorem dX8_lessonNumbered_5 : decode cX8_lessonNumbered 5 = .ok (.aload_n 0, 1) := by decide +kernel
theorem dX8_lessonNumbered_6 : decode cX8_lessonNumbered 6 = .ok (.getfield 19, 3) := by decide +kernel
theorem dX8_lessonNumbered_9 : decode cX8_lessonNumbered 9 = .ok (.getfield 121, 3) := by decide +kernel
theorem dX8_lessonNumbered_12 : decode cX8_lessonNumbered 12 = .ok (.invokevirtual 70, 3) := by decide +kernel
theorem dX8_lessonNumbered_15 : decode cX8_lessonNumbered 15 = .ok (.if_icmp .lt 14, 3) := by decide +kernel
theorem dX8_lessonNumbered_18 : decode cX8_lessonNumbered 18 = .ok (.new 418, 3) := by decide +kernel
theorem dX8_lessonNumbered_21 : decode cX8_lessonNumbered 21 = .ok (.dup, 1) := by decide +kernel
theorem dX8_lessonNumbered_22 : decode cX8_lessonNumbered 22 = .ok (.ldc_w 427, 3) := by decide +kernel
theorem dX8_lessonNumbered_25 : decode cX8_lessonNumbered 25 = .ok (.invokespecial 422, 3) := by decide +kernel
theorem dX8_lessonNumbered_28 : decode cX8_lessonNumbered 28 = .ok (.athrow, 1) := by decide +kernel
theorem dX8_lessonNumbered_29 : decode cX8_lessonNumbered 29 = .ok (.aload_n 0, 1) := by decide +kernel
theorem dX8_lessonNumbered_30 : decode cX8_lessonNumbered 30 = .ok (.getfield 19, 3) := by decide +kernel
theorem dX8_lessonNumbered_33 : decode cX8_lessonNumbered 33 = .ok (.getfield 121, 3) := by decide +kernel
theorem dX8_lessonNumbered_36 : decode cX8_lessonNumbered 36 = .ok (.iload_n 1, 1) := by decide +kernel
theorem dX8_lessonNumbered_37 : decode cX8_lessonNumbered 37 = .ok (.invokevirtual 186, 3) := by decide +kernel
theorem dX8_lessonNumbered_40 : decode cX8_lessonNumbered 40 = .ok (.checkcast 126, 3) := by decide +kernel
theorem dX8_lessonNumbered_43 : decode cX8_lessonNumbered 43 = .ok (.areturn, 1) := by decide +kernel
theorem dX8_versionNumbered_0 : decode cX8_versionNumbered 0 = .ok (.iload_n 1, 1) := by decide +kernel
theorem dX8_versionNumbered_1 : decode cX8_versionNumbered 1 = .ok (.ifCond .lt 20, 3) := by decide +kernel
theorem dX8_versionNumbered_4 : decode cX8_versionNumbered 4 = .ok (.iload_n 1, 1) := by decide +kernel
theorem dX8_versionNumbered_5 : decode cX8_versionNumbered 5 = .ok (.aload_n 0, 1) := by decide +kernel
theorem dX8_versionNumbered_6 : decode cX8_versionNumbered 6 = .ok (.getfield 386, 3) := by decide +kernel
theorem dX8_versionNumbered_9 : decode cX8_versionNumbered 9 = .ok (.if_icmp .ge 12, 3) := by decide +kernel
theorem dX8_versionNumbered_12 : decode cX8_versionNumbered 12 = .ok (.iload_n 1, 1) := by decide +kernel
theorem dX8_versionNumbered_13 : decode cX8_versionNumbered 13 = .ok (.aload_n 0, 1) := by decide +kernel
theorem dX8_versionNumbered_14 : decode cX8_versionNumbered 14 = .ok (.getfield 46, 3) := by decide +kernel
theorem dX8_versionNumbered_17 : decode cX8_versionNumbered 17 = .ok (.arraylength, 1) := by decide +kernel
theorem dX8_versionNumbered_18 : decode cX8_versionNumbered 18 = .ok (.if_icmp .lt 14, 3) := by decide +kernel
theorem dX8_versionNumbered_21 : decode cX8_versionNumbered 21 = .ok (.new 190, 3) := by decide +kernel
theorem dX8_versionNumbered_24 : decode cX8_versionNumbered 24 = .ok (.dup, 1) := by decide +kernel
theorem dX8_versionNumbered_25 : decode cX8_versionNumbered 25 = .ok (.ldc_w 429, 3) := by decide +kernel
theorem dX8_versionNumbered_28 : decode cX8_versionNumbered 28 = .ok (.invokespecial 194, 3) := by decide +kernel
theorem dX8_versionNumbered_31 : decode cX8_versionNumbered 31 = .ok (.athrow, 1) := by decide +kernel
theorem dX8_versionNumbered_32 : decode cX8_versionNumbered 32 = .ok (.aload_n 0, 1) := by decide +kernel
theorem dX8_versionNumbered_33 : decode cX8_versionNumbered 33 = .ok (.getfield 46, 3) := by decide +kernel
theorem dX8_versionNumbered_36 : decode cX8_versionNumbered 36 = .ok (.iload_n 1, 1) := by decide +kernel
theorem dX8_versionNumbered_37 : decode cX8_versionNumbered 37 = .ok (.aaload, 1) := by decide +kernel
theorem dX8_versionNumbered_38 : decode cX8_versionNumbered 38 = .ok (.areturn, 1) := by decide +kernel
theorem dX8_roomOfPlace_0 : decode cX8_roomOfPlace 0 = .ok (.iload_n 1, 1) := by decide +kernel
theorem dX8_roomOfPlace_1 : decode cX8_roomOfPlace 1 = .ok (.invokestatic 131, 3) := by decide +kernel
theorem dX8_roomOfPlace_4 : decode cX8_roomOfPlace 4 = .ok (.iload_n 2, 1) := by decide +kernel
theorem dX8_roomOfPlace_5 : decode cX8_roomOfPlace 5 = .ok (.ifCond .lt 17, 3) := by decide +kernel
theorem dX8_roomOfPlace_8 : decode cX8_roomOfPlace 8 = .ok (.iload_n 2, 1) := by decide +kernel
theorem dX8_roomOfPlace_9 : decode cX8_roomOfPlace 9 = .ok (.aload_n 0, 1) := by decide +kernel
theorem dX8_roomOfPlace_10 : decode cX8_roomOfPlace 10 = .ok (.getfield 19, 3) := by decide +kernel
theorem dX8_roomOfPlace_13 : decode cX8_roomOfPlace 13 = .ok (.getfield 67, 3) := by decide +kernel
theorem dX8_roomOfPlace_16 : decode cX8_roomOfPlace 16 = .ok (.invokevirtual 70, 3) := by decide +kernel
theorem dX8_roomOfPlace_19 : decode cX8_roomOfPlace 19 = .ok (.if_icmp .lt 14, 3) := by decide +kernel
theorem dX8_roomOfPlace_22 : decode cX8_roomOfPlace 22 = .ok (.new 60, 3) := by decide +kernel
theorem dX8_roomOfPlace_25 : decode cX8_roomOfPlace 25 = .ok (.dup, 1) := by decide +kernel
theorem dX8_roomOfPlace_26 : decode cX8_roomOfPlace 26 = .ok (.ldc_w 420, 3) := by decide +kernel
theorem dX8_roomOfPlace_29 : decode cX8_roomOfPlace 29 = .ok (.invokespecial 64, 3) := by decide +kernel
theorem dX8_roomOfPlace_32 : decode cX8_roomOfPlace 32 = .ok (.athrow, 1) := by decide +kernel
theorem dX8_roomOfPlace_33 : decode cX8_roomOfPlace 33 = .ok (.aload_n 0, 1) := by decide +kernel
theorem dX8_roomOfPlace_34 : decode cX8_roomOfPlace 34 = .ok (.getfield 19, 3) := by decide +kernel
theorem dX8_roomOfPlace_37 : decode cX8_roomOfPlace 37 = .ok (.getfield 67, 3) := by decide +kernel
theorem dX8_roomOfPlace_40 : decode cX8_roomOfPlace 40 = .ok (.iload_n 2, 1) := by decide +kernel
theorem dX8_roomOfPlace_41 : decode cX8_roomOfPlace 41 = .ok (.invokevirtual 186, 3) := by decide +kernel
theorem dX8_roomOfPlace_44 : decode cX8_roomOfPlace 44 = .ok (.checkcast 79, 3) := by decide +kernel
theorem dX8_roomOfPlace_47 : decode cX8_roomOfPlace 47 = .ok (.areturn, 1) := by decide +kernel
theorem dX8_requireSlot_0 : decode cX8_requireSlot 0 = .ok (.iload_n 0, 1) := by decide +kernel
theorem dX8_requireSlot_1 : decode cX8_requireSlot 1 = .ok (.iconst 0, 1) := by decide +kernel
theorem dX8_requireSlot_2 : decode cX8_requireSlot 2 = .ok (.bipush 29, 2) := by decide +kernel
theorem dX8_requireSlot_4 : decode cX8_requireSlot 4 = .ok (.invokestatic 56, 3) := by decide +kernel
theorem dX8_requireSlot_7 : decode cX8_requireSlot 7 = .ok (.ifCond .eq 14, 3) := by decide +kernel
theorem dX8_requireSlot_10 : decode cX8_requireSlot 10 = .ok (.new 60, 3) := by decide +kernel
theorem dX8_requireSlot_13 : decode cX8_requireSlot 13 = .ok (.dup, 1) := by decide +kernel
theorem dX8_requireSlot_14 : decode cX8_requireSlot 14 = .ok (.ldc_w 431, 3) := by decide +kernel
theorem dX8_requireSlot_17 : decode cX8_requireSlot 17 = .ok (.invokespecial 64, 3) := by decide +kernel
theorem dX8_requireSlot_20 : decode cX8_requireSlot 20 = .ok (.athrow, 1) := by decide +kernel
theorem dX8_requireSlot_21 : decode cX8_requireSlot 21 = .ok (.return_, 1) := by decide +kernel
theorem dX8_requirePiece_0 : decode cX8_requirePiece 0 = .ok (.iload_n 0, 1) := by decide +kernel
theorem dX8_requirePiece_1 : decode cX8_requirePiece 1 = .ok (.iconst 0, 1) := by decide +kernel
theorem dX8_requirePiece_2 : decode cX8_requirePiece 2 = .ok (.iconst 3, 1) := by decide +kernel
theorem dX8_requirePiece_3 : decode cX8_requirePiece 3 = .ok (.invokestatic 56, 3) := by decide +kernel
theorem dX8_requirePiece_6 : decode cX8_requirePiece 6 = .ok (.ifCond .eq 14, 3) := by decide +kernel
theorem dX8_requirePiece_9 : decode cX8_requirePiece 9 = .ok (.new 60, 3) := by decide +kernel
theorem dX8_requirePiece_12 : decode cX8_requirePiece 12 = .ok (.dup, 1) := by decide +kernel
theorem dX8_requirePiece_13 : decode cX8_requirePiece 13 = .ok (.ldc_w 433, 3) := by decide +kernel
theorem dX8_requirePiece_16 : decode cX8_requirePiece 16 = .ok (.invokespecial 64, 3) := by decide +kernel
theorem dX8_requirePiece_19 : decode cX8_requirePiece 19 = .ok (.athrow, 1) := by decide +kernel
theorem dX8_requirePiece_20 : decode cX8_requirePiece 20 = .ok (.return_, 1) := by decide +kernel
theorem dX8_requireKind_0 : decode cX8_requireKind 0 = .ok (.iload_n 0, 1) := by decide +kernel
theorem dX8_requireKind_1 : decode cX8_requireKind 1 = .ok (.iconst 0, 1) := by decide +kernel
theorem dX8_requireKind_2 : decode cX8_requireKind 2 = .ok (.iconst 3, 1) := by decide +kernel
theorem dX8_requireKind_3 : decode cX8_requireKind 3 = .ok (.invokestatic 56, 3) := by decide +kernel
theorem dX8_requireKind_6 : decode cX8_requireKind 6 = .ok (.ifCond .eq 14, 3) := by decide +kernel
theorem dX8_requireKind_9 : decode cX8_requireKind 9 = .ok (.new 60, 3) := by decide +kernel
theorem dX8_requireKind_12 : decode cX8_requireKind 12 = .ok (.dup, 1) := by decide +kernel
theorem dX8_requireKind_13 : decode cX8_requireKind 13 = .ok (.ldc_w 435, 3) := by decide +kernel
theorem dX8_requireKind_16 : decode cX8_requireKind 16 = .ok (.invokespecial 64, 3) := by decide +kernel
theorem dX8_requireKind_19 : decode cX8_requireKind 19 = .ok (.athrow, 1) := by decide +kernel
theorem dX8_requireKind_20 : decode cX8_requireKind 20 = .ok (.return_, 1) := by decide +kernel
theorem dX8_requirePlaced_0 : decode cX8_requirePlaced 0 = .ok (.aload_n 0, 1) := by decide +kernel
theorem dX8_requirePlaced_1 : decode cX8_requirePlaced 1 = .ok (.getfield 358, 3) := by decide +kernel
theorem dX8_requirePlaced_4 : decode cX8_requirePlaced 4 = .ok (.ifnonnull 13, 3) := by decide +kernel
theorem dX8_requirePlaced_7 : decode cX8_requirePlaced 7 = .ok (.new 74, 3) := by decide +kernel
theorem dX8_requirePlaced_10 : decode cX8_requirePlaced 10 = .ok (.dup, 1) := by decide +kernel
theorem dX8_requirePlaced_11 : decode cX8_requirePlaced 11 = .ok (.ldc 242, 2) := by decide +kernel
theorem dX8_requirePlaced_13 : decode cX8_requirePlaced 13 = .ok (.invokespecial 78, 3) := by decide +kernel
theorem dX8_requirePlaced_16 : decode cX8_requirePlaced 16 = .ok (.athrow, 1) := by decide +kernel
theorem dX8_requirePlaced_17 : decode cX8_requirePlaced 17 = .ok (.return_, 1) := by decide +kernel
theorem dX8_requireFree_0 : decode cX8_requireFree 0 = .ok (.aload_n 0, 1) := by decide +kernel
theorem dX8_requireFree_1 : decode cX8_requireFree 1 = .ok (.getfield 19, 3) := by decide +kernel
theorem dX8_requireFree_4 : decode cX8_requireFree 4 = .ok (.aload_n 1, 1) := by decide +kernel
theorem dX8_requireFree_5 : decode cX8_requireFree 5 = .ok (.invokevirtual 437, 3) := by decide +kernel
theorem dX8_requireFree_8 : decode cX8_requireFree 8 = .ok (.ifCond .ne 14, 3) := by decide +kernel
theorem dX8_requireFree_11 : decode cX8_requireFree 11 = .ok (.new 74, 3) := by decide +kernel
theorem dX8_requireFree_14 : decode cX8_requireFree 14 = .ok (.dup, 1) := by decide +kernel
theorem dX8_requireFree_15 : decode cX8_requireFree 15 = .ok (.ldc_w 440, 3) := by decide +kernel
theorem dX8_requireFree_18 : decode cX8_requireFree 18 = .ok (.invokespecial 78, 3) := by decide +kernel
theorem dX8_requireFree_21 : decode cX8_requireFree 21 = .ok (.athrow, 1) := by decide +kernel
theorem dX8_requireFree_22 : decode cX8_requireFree 22 = .ok (.return_, 1) := by decide +kernel
theorem dX8_requirePossible_0 : decode cX8_requirePossible 0 = .ok (.aload_n 0, 1) := by decide +kernel
theorem dX8_requirePossible_1 : decode cX8_requirePossible 1 = .ok (.getfield 19, 3) := by decide +kernel
theorem dX8_requirePossible_4 : decode cX8_requirePossible 4 = .ok (.aload_n 1, 1) := by decide +kernel
theorem dX8_requirePossible_5 : decode cX8_requirePossible 5 = .ok (.invokevirtual 157, 3) := by decide +kernel
theorem dX8_requirePossible_8 : decode cX8_requirePossible 8 = .ok (.aload_n 1, 1) := by decide +kernel
theorem dX8_requirePossible_9 : decode cX8_requirePossible 9 = .ok (.iload_n 2, 1) := by decide +kernel
theorem dX8_requirePossible_10 : decode cX8_requirePossible 10 = .ok (.aload_n 3, 1) := by decide +kernel
theorem dX8_requirePossible_11 : decode cX8_requirePossible 11 = .ok (.invokevirtual 161, 3) := by decide +kernel
theorem dX8_requirePossible_14 : decode cX8_requirePossible 14 = .ok (.ifCond .eq 14, 3) := by decide +kernel
theorem dX8_requirePossible_17 : decode cX8_requirePossible 17 = .ok (.new 341, 3) := by decide +kernel
theorem dX8_requirePossible_20 : decode cX8_requirePossible 20 = .ok (.dup, 1) := by decide +kernel
theorem dX8_requirePossible_21 : decode cX8_requirePossible 21 = .ok (.ldc_w 442, 3) := by decide +kernel
theorem dX8_requirePossible_24 : decode cX8_requirePossible 24 = .ok (.invokespecial 345, 3) := by decide +kernel
theorem dX8_requirePossible_27 : decode cX8_requirePossible 27 = .ok (.athrow, 1) := by decide +kernel
theorem dX8_requirePossible_28 : decode cX8_requirePossible 28 = .ok (.return_, 1) := by decide +kernel
theorem dX8_isOutside_0 : decode cX8_isOutside 0 = .ok (.iload_n 0, 1) := by decide +kernel
theorem dX8_isOutside_1 : decode cX8_isOutside 1 = .ok (.iload_n 1, 1) := by decide +kernel
theorem dX8_isOutside_2 : decode cX8_isOutside 2 = .ok (.if_icmp .lt 8, 3) := by decide +kernel
theorem dX8_isOutside_5 : decode cX8_isOutside 5 = .ok (.iload_n 0, 1) := by decide +kernel
theorem dX8_isOutside_6 : decode cX8_isOutside 6 = .ok (.iload_n 2, 1) := by decide +kernel
theorem dX8_isOutside_7 : decode cX8_isOutside 7 = .ok (.if_icmp .le 7, 3) := by decide +kernel
theorem dX8_isOutside_10 : decode cX8_isOutside 10 = .ok (.iconst 1, 1) := by decide +kernel
theorem dX8_isOutside_11 : decode cX8_isOutside 11 = .ok (.goto 4, 3) := by decide +kernel
theorem dX8_isOutside_14 : decode cX8_isOutside 14 = .ok (.iconst 0, 1) := by decide +kernel
theorem dX8_isOutside_15 : decode cX8_isOutside 15 = .ok (.ireturn, 1) := by decide +kernel
theorem dX8_has_0 : decode cX8_has 0 = .ok (.iload_n 0, 1) := by decide +kernel
theorem dX8_has_1 : decode cX8_has 1 = .ok (.iload_n 1, 1) := by decide +kernel
theorem dX8_has_2 : decode cX8_has 2 = .ok (.iushr, 1) := by decide +kernel
theorem dX8_has_3 : decode cX8_has 3 = .ok (.iconst 1, 1) := by decide +kernel
theorem dX8_has_4 : decode cX8_has 4 = .ok (.iand, 1) := by decide +kernel
theorem dX8_has_5 : decode cX8_has 5 = .ok (.ifCond .eq 7, 3) := by decide +kernel
theorem dX8_has_8 : decode cX8_has 8 = .ok (.iconst 1, 1) := by decide +kernel
theorem dX8_has_9 : decode cX8_has 9 = .ok (.goto 4, 3) := by decide +kernel
theorem dX8_has_12 : decode cX8_has 12 = .ok (.iconst 0, 1) := by decide +kernel
theorem dX8_has_13 : decode cX8_has 13 = .ok (.ireturn, 1) := by decide +kernel
theorem dX8_at_0 : decode cX8_at 0 = .ok (.iload_n 1, 1) := by decide +kernel
theorem dX8_at_1 : decode cX8_at 1 = .ok (.ifCond .lt 15, 3) := by decide +kernel
theorem dX8_at_4 : decode cX8_at 4 = .ok (.iload_n 1, 1) := by decide +kernel
theorem dX8_at_5 : decode cX8_at 5 = .ok (.aload_n 0, 1) := by decide +kernel
theorem dX8_at_6 : decode cX8_at 6 = .ok (.arraylength, 1) := by decide +kernel
theorem dX8_at_7 : decode cX8_at 7 = .ok (.if_icmp .ge 9, 3) := by decide +kernel
theorem dX8_at_10 : decode cX8_at 10 = .ok (.aload_n 0, 1) := by decide +kernel
theorem dX8_at_11 : decode cX8_at 11 = .ok (.iload_n 1, 1) := by decide +kernel
theorem dX8_at_12 : decode cX8_at 12 = .ok (.iaload, 1) := by decide +kernel
theorem dX8_at_13 : decode cX8_at 13 = .ok (.goto 4, 3) := by decide +kernel
theorem dX8_at_16 : decode cX8_at 16 = .ok (.iconst 0, 1) := by decide +kernel
theorem dX8_at_17 : decode cX8_at 17 = .ok (.ireturn, 1) := by decide +kernel
theorem dX8_addSlots_0 : decode cX8_addSlots 0 = .ok (.iload_n 1, 1) := by decide +kernel
theorem dX8_addSlots_1 : decode cX8_addSlots 1 = .ok (.ifCond .lt 16, 3) := by decide +kernel
theorem dX8_addSlots_4 : decode cX8_addSlots 4 = .ok (.iload_n 1, 1) := by decide +kernel
theorem dX8_addSlots_5 : decode cX8_addSlots 5 = .ok (.aload_n 0, 1) := by decide +kernel
theorem dX8_addSlots_6 : decode cX8_addSlots 6 = .ok (.arraylength, 1) := by decide +kernel
theorem dX8_addSlots_7 : decode cX8_addSlots 7 = .ok (.if_icmp .ge 10, 3) := by decide +kernel
theorem dX8_addSlots_10 : decode cX8_addSlots 10 = .ok (.aload_n 0, 1) := by decide +kernel
theorem dX8_addSlots_11 : decode cX8_addSlots 11 = .ok (.iload_n 1, 1) := by decide +kernel
theorem dX8_addSlots_12 : decode cX8_addSlots 12 = .ok (.dup2, 1) := by decide +kernel
theorem dX8_addSlots_13 : decode cX8_addSlots 13 = .ok (.iaload, 1) := by decide +kernel
theorem dX8_addSlots_14 : decode cX8_addSlots 14 = .ok (.iload_n 2, 1) := by decide +kernel
theorem dX8_addSlots_15 : decode cX8_addSlots 15 = .ok (.ior, 1) := by decide +kernel
theorem dX8_addSlots_16 : decode cX8_addSlots 16 = .ok (.iastore, 1) := by decide +kernel
theorem dX8_addSlots_17 : decode cX8_addSlots 17 = .ok (.return_, 1) := by decide +kernel
theorem dX8_slotsOfDay_0 : decode cX8_slotsOfDay 0 = .ok (.bipush 63, 2) := by decide +kernel
theorem dX8_slotsOfDay_2 : decode cX8_slotsOfDay 2 = .ok (.bipush 6, 2) := by decide +kernel
theorem dX8_slotsOfDay_4 : decode cX8_slotsOfDay 4 = .ok (.iload_n 0, 1) := by decide +kernel
theorem dX8_slotsOfDay_5 : decode cX8_slotsOfDay 5 = .ok (.imul, 1) := by decide +kernel
theorem dX8_slotsOfDay_6 : decode cX8_slotsOfDay 6 = .ok (.ishl, 1) := by decide +kernel
theorem dX8_slotsOfDay_7 : decode cX8_slotsOfDay 7 = .ok (.ireturn, 1) := by decide +kernel
theorem dX8_slotsOfDays_0 : decode cX8_slotsOfDays 0 = .ok (.iconst 0, 1) := by decide +kernel
theorem dX8_slotsOfDays_1 : decode cX8_slotsOfDays 1 = .ok (.istore_n 1, 1) := by decide +kernel
theorem dX8_slotsOfDays_2 : decode cX8_slotsOfDays 2 = .ok (.iconst 0, 1) := by decide +kernel
theorem dX8_slotsOfDays_3 : decode cX8_slotsOfDays 3 = .ok (.istore_n 2, 1) := by decide +kernel
theorem dX8_slotsOfDays_4 : decode cX8_slotsOfDays 4 = .ok (.iload_n 2, 1) := by decide +kernel
theorem dX8_slotsOfDays_5 : decode cX8_slotsOfDays 5 = .ok (.iconst 5, 1) := by decide +kernel
theorem dX8_slotsOfDays_6 : decode cX8_slotsOfDays 6 = .ok (.if_icmp .ge 28, 3) := by decide +kernel
theorem dX8_slotsOfDays_9 : decode cX8_slotsOfDays 9 = .ok (.iload_n 1, 1) := by decide +kernel
theorem dX8_slotsOfDays_10 : decode cX8_slotsOfDays 10 = .ok (.iload_n 0, 1) := by decide +kernel
theorem dX8_slotsOfDays_11 : decode cX8_slotsOfDays 11 = .ok (.iload_n 2, 1) := by decide +kernel
theorem dX8_slotsOfDays_12 : decode cX8_slotsOfDays 12 = .ok (.invokestatic 172, 3) := by decide +kernel
theorem dX8_slotsOfDays_15 : decode cX8_slotsOfDays 15 = .ok (.ifCond .eq 10, 3) := by decide +kernel
theorem dX8_slotsOfDays_18 : decode cX8_slotsOfDays 18 = .ok (.iload_n 2, 1) := by decide +kernel
theorem dX8_slotsOfDays_19 : decode cX8_slotsOfDays 19 = .ok (.invokestatic 333, 3) := by decide +kernel
theorem dX8_slotsOfDays_22 : decode cX8_slotsOfDays 22 = .ok (.goto 4, 3) := by decide +kernel
theorem dX8_slotsOfDays_25 : decode cX8_slotsOfDays 25 = .ok (.iconst 0, 1) := by decide +kernel
theorem dX8_slotsOfDays_26 : decode cX8_slotsOfDays 26 = .ok (.ior, 1) := by decide +kernel
theorem dX8_slotsOfDays_27 : decode cX8_slotsOfDays 27 = .ok (.istore_n 1, 1) := by decide +kernel
theorem dX8_slotsOfDays_28 : decode cX8_slotsOfDays 28 = .ok (.iinc 2 1, 3) := by decide +kernel
theorem dX8_slotsOfDays_31 : decode cX8_slotsOfDays 31 = .ok (.goto (-27), 3) := by decide +kernel
theorem dX8_slotsOfDays_34 : decode cX8_slotsOfDays 34 = .ok (.iload_n 1, 1) := by decide +kernel
theorem dX8_slotsOfDays_35 : decode cX8_slotsOfDays 35 = .ok (.ireturn, 1) := by decide +kernel
theorem dX8_slotsThatMeet_0 : decode cX8_slotsThatMeet 0 = .ok (.iconst 0, 1) := by decide +kernel
theorem dX8_slotsThatMeet_1 : decode cX8_slotsThatMeet 1 = .ok (.istore_n 2, 1) := by decide +kernel
theorem dX8_slotsThatMeet_2 : decode cX8_slotsThatMeet 2 = .ok (.iload_n 0, 1) := by decide +kernel
theorem dX8_slotsThatMeet_3 : decode cX8_slotsThatMeet 3 = .ok (.istore_n 3, 1) := by decide +kernel
theorem dX8_slotsThatMeet_4 : decode cX8_slotsThatMeet 4 = .ok (.iconst 0, 1) := by decide +kernel
theorem dX8_slotsThatMeet_5 : decode cX8_slotsThatMeet 5 = .ok (.istore 4, 2) := by decide +kernel
theorem dX8_slotsThatMeet_7 : decode cX8_slotsThatMeet 7 = .ok (.iload 4, 2) := by decide +kernel
theorem dX8_slotsThatMeet_9 : decode cX8_slotsThatMeet 9 = .ok (.iload_n 1, 1) := by decide +kernel
theorem dX8_slotsThatMeet_10 : decode cX8_slotsThatMeet 10 = .ok (.if_icmp .ge 21, 3) := by decide +kernel
theorem dX8_slotsThatMeet_13 : decode cX8_slotsThatMeet 13 = .ok (.iload_n 2, 1) := by decide +kernel
theorem dX8_slotsThatMeet_14 : decode cX8_slotsThatMeet 14 = .ok (.iload_n 3, 1) := by decide +kernel
theorem dX8_slotsThatMeet_15 : decode cX8_slotsThatMeet 15 = .ok (.ior, 1) := by decide +kernel
theorem dX8_slotsThatMeet_16 : decode cX8_slotsThatMeet 16 = .ok (.istore_n 2, 1) := by decide +kernel
theorem dX8_slotsThatMeet_17 : decode cX8_slotsThatMeet 17 = .ok (.iload_n 3, 1) := by decide +kernel
theorem dX8_slotsThatMeet_18 : decode cX8_slotsThatMeet 18 = .ok (.ldc_w 444, 3) := by decide +kernel
theorem dX8_slotsThatMeet_21 : decode cX8_slotsThatMeet 21 = .ok (.iand, 1) := by decide +kernel
theorem dX8_slotsThatMeet_22 : decode cX8_slotsThatMeet 22 = .ok (.iconst 1, 1) := by decide +kernel
theorem dX8_slotsThatMeet_23 : decode cX8_slotsThatMeet 23 = .ok (.iushr, 1) := by decide +kernel
theorem dX8_slotsThatMeet_24 : decode cX8_slotsThatMeet 24 = .ok (.istore_n 3, 1) := by decide +kernel
theorem dX8_slotsThatMeet_25 : decode cX8_slotsThatMeet 25 = .ok (.iinc 4 1, 3) := by decide +kernel
theorem dX8_slotsThatMeet_28 : decode cX8_slotsThatMeet 28 = .ok (.goto (-21), 3) := by decide +kernel
theorem dX8_slotsThatMeet_31 : decode cX8_slotsThatMeet 31 = .ok (.iload_n 2, 1) := by decide +kernel
theorem dX8_slotsThatMeet_32 : decode cX8_slotsThatMeet 32 = .ok (.ireturn, 1) := by decide +kernel
theorem dX8_gapsAmong_0 : decode cX8_gapsAmong 0 = .ok (.iload_n 0, 1) := by decide +kernel
theorem dX8_gapsAmong_1 : decode cX8_gapsAmong 1 = .ok (.iload_n 0, 1) := by decide +kernel
theorem dX8_gapsAmong_2 : decode cX8_gapsAmong 2 = .ok (.iconst 1, 1) := by decide +kernel
theorem dX8_gapsAmong_3 : decode cX8_gapsAmong 3 = .ok (.ishl, 1) := by decide +kernel
theorem dX8_gapsAmong_4 : decode cX8_gapsAmong 4 = .ok (.ior, 1) := by decide +kernel
theorem dX8_gapsAmong_5 : decode cX8_gapsAmong 5 = .ok (.istore_n 1, 1) := by decide +kernel
theorem dX8_gapsAmong_6 : decode cX8_gapsAmong 6 = .ok (.iload_n 1, 1) := by decide +kernel
theorem dX8_gapsAmong_7 : decode cX8_gapsAmong 7 = .ok (.iload_n 1, 1) := by decide +kernel
theorem dX8_gapsAmong_8 : decode cX8_gapsAmong 8 = .ok (.iconst 2, 1) := by decide +kernel
theorem dX8_gapsAmong_9 : decode cX8_gapsAmong 9 = .ok (.ishl, 1) := by decide +kernel
theorem dX8_gapsAmong_10 : decode cX8_gapsAmong 10 = .ok (.ior, 1) := by decide +kernel
theorem dX8_gapsAmong_11 : decode cX8_gapsAmong 11 = .ok (.istore_n 1, 1) := by decide +kernel
theorem dX8_gapsAmong_12 : decode cX8_gapsAmong 12 = .ok (.iload_n 1, 1) := by decide +kernel
theorem dX8_gapsAmong_13 : decode cX8_gapsAmong 13 = .ok (.iload_n 1, 1) := by decide +kernel
theorem dX8_gapsAmong_14 : decode cX8_gapsAmong 14 = .ok (.iconst 4, 1) := by decide +kernel
theorem dX8_gapsAmong_15 : decode cX8_gapsAmong 15 = .ok (.ishl, 1) := by decide +kernel
theorem dX8_gapsAmong_16 : decode cX8_gapsAmong 16 = .ok (.ior, 1) := by decide +kernel
theorem dX8_gapsAmong_17 : decode cX8_gapsAmong 17 = .ok (.istore_n 1, 1) := by decide +kernel
theorem dX8_gapsAmong_18 : decode cX8_gapsAmong 18 = .ok (.iload_n 0, 1) := by decide +kernel
theorem dX8_gapsAmong_19 : decode cX8_gapsAmong 19 = .ok (.iload_n 0, 1) := by decide +kernel
theorem dX8_gapsAmong_20 : decode cX8_gapsAmong 20 = .ok (.iconst 1, 1) := by decide +kernel
theorem dX8_gapsAmong_21 : decode cX8_gapsAmong 21 = .ok (.iushr, 1) := by decide +kernel
theorem dX8_gapsAmong_22 : decode cX8_gapsAmong 22 = .ok (.ior, 1) := by decide +kernel
theorem dX8_gapsAmong_23 : decode cX8_gapsAmong 23 = .ok (.istore_n 2, 1) := by decide +kernel
theorem dX8_gapsAmong_24 : decode cX8_gapsAmong 24 = .ok (.iload_n 2, 1) := by decide +kernel
theorem dX8_gapsAmong_25 : decode cX8_gapsAmong 25 = .ok (.iload_n 2, 1) := by decide +kernel
theorem dX8_gapsAmong_26 : decode cX8_gapsAmong 26 = .ok (.iconst 2, 1) := by decide +kernel
theorem dX8_gapsAmong_27 : decode cX8_gapsAmong 27 = .ok (.iushr, 1) := by decide +kernel
theorem dX8_gapsAmong_28 : decode cX8_gapsAmong 28 = .ok (.ior, 1) := by decide +kernel
theorem dX8_gapsAmong_29 : decode cX8_gapsAmong 29 = .ok (.istore_n 2, 1) := by decide +kernel
theorem dX8_gapsAmong_30 : decode cX8_gapsAmong 30 = .ok (.iload_n 2, 1) := by decide +kernel
theorem dX8_gapsAmong_31 : decode cX8_gapsAmong 31 = .ok (.iload_n 2, 1) := by decide +kernel
theorem dX8_gapsAmong_32 : decode cX8_gapsAmong 32 = .ok (.iconst 4, 1) := by decide +kernel
theorem dX8_gapsAmong_33 : decode cX8_gapsAmong 33 = .ok (.iushr, 1) := by decide +kernel
theorem dX8_gapsAmong_34 : decode cX8_gapsAmong 34 = .ok (.ior, 1) := by decide +kernel
theorem dX8_gapsAmong_35 : decode cX8_gapsAmong 35 = .ok (.istore_n 2, 1) := by decide +kernel
theorem dX8_gapsAmong_36 : decode cX8_gapsAmong 36 = .ok (.iload_n 1, 1) := by decide +kernel
theorem dX8_gapsAmong_37 : decode cX8_gapsAmong 37 = .ok (.iload_n 2, 1) := by decide +kernel
theorem dX8_gapsAmong_38 : decode cX8_gapsAmong 38 = .ok (.iand, 1) := by decide +kernel
theorem dX8_gapsAmong_39 : decode cX8_gapsAmong 39 = .ok (.iload_n 0, 1) := by decide +kernel
theorem dX8_gapsAmong_40 : decode cX8_gapsAmong 40 = .ok (.iconst (-1), 1) := by decide +kernel
theorem dX8_gapsAmong_41 : decode cX8_gapsAmong 41 = .ok (.ixor, 1) := by decide +kernel
theorem dX8_gapsAmong_42 : decode cX8_gapsAmong 42 = .ok (.iand, 1) := by decide +kernel
theorem dX8_gapsAmong_43 : decode cX8_gapsAmong 43 = .ok (.ireturn, 1) := by decide +kernel
