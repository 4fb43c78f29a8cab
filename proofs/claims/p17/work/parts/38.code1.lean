/-! The rows of the code, one by one. -/
theorem c_47_0 : mj_code 47 0 = some (.iconst 0, 1, 0, 0, 0) := rfl
theorem c_47_1 : mj_code 47 1 = some (.istore_n 2, 2, 0, 0, 0) := rfl
theorem c_47_2 : mj_code 47 2 = some (.iload_n 2, 3, 0, 0, 0) := rfl
theorem c_47_3 : mj_code 47 3 = some (.aload_n 0, 4, 0, 0, 0) := rfl
theorem c_47_4 : mj_code 47 4 = some (.getfield 20, 7, 6, 2, 419) := rfl
theorem c_47_7 : mj_code 47 7 = some (.if_icmp .ge 26, 10, 33, 0, 0) := rfl
theorem c_47_10 : mj_code 47 10 = some (.aload_n 0, 11, 0, 0, 0) := rfl
theorem c_47_11 : mj_code 47 11 = some (.getfield 11, 14, 6, 3, 422) := rfl
theorem c_47_14 : mj_code 47 14 = some (.iload_n 2, 15, 0, 0, 0) := rfl
theorem c_47_15 : mj_code 47 15 = some (.iaload, 16, 0, 0, 0) := rfl
theorem c_47_16 : mj_code 47 16 = some (.iload_n 1, 17, 0, 0, 0) := rfl
theorem c_47_17 : mj_code 47 17 = some (.if_icmp .ne 10, 20, 27, 0, 0) := rfl
theorem c_47_20 : mj_code 47 20 = some (.aload_n 0, 21, 0, 0, 0) := rfl
theorem c_47_21 : mj_code 47 21 = some (.getfield 17, 24, 6, 4, 425) := rfl
theorem c_47_24 : mj_code 47 24 = some (.iload_n 2, 25, 0, 0, 0) := rfl
theorem c_47_25 : mj_code 47 25 = some (.iaload, 26, 0, 0, 0) := rfl
theorem c_47_26 : mj_code 47 26 = some (.ireturn, 27, 0, 0, 0) := rfl
theorem c_47_27 : mj_code 47 27 = some (.iinc 2 1, 30, 0, 0, 0) := rfl
theorem c_47_30 : mj_code 47 30 = some (.goto (-28), 33, 2, 0, 0) := rfl
theorem c_47_33 : mj_code 47 33 = some (.bipush (-7), 35, 0, 0, 0) := rfl
theorem c_47_35 : mj_code 47 35 = some (.ireturn, 36, 0, 0, 0) := rfl
theorem c_49_0 : mj_code 49 0 = some (.aload_n 0, 1, 0, 0, 0) := rfl
theorem c_49_1 : mj_code 49 1 = some (.aload_n 2, 2, 0, 0, 0) := rfl
theorem c_49_2 : mj_code 49 2 = some (.putfield 14, 5, 7, 0, 204) := rfl
theorem c_49_5 : mj_code 49 5 = some (.aload_n 0, 6, 0, 0, 0) := rfl
theorem c_49_6 : mj_code 49 6 = some (.iload_n 1, 7, 0, 0, 0) := rfl
theorem c_49_7 : mj_code 49 7 = some (.invokevirtual 50, 10, 50, 0, 708) := rfl
theorem c_49_10 : mj_code 49 10 = some (.iconst 0, 11, 0, 0, 0) := rfl
theorem c_49_11 : mj_code 49 11 = some (.istore 7, 13, 0, 0, 0) := rfl
theorem c_49_13 : mj_code 49 13 = some (.iload 7, 15, 0, 0, 0) := rfl
theorem c_49_15 : mj_code 49 15 = some (.aload_n 0, 16, 0, 0, 0) := rfl
theorem c_49_16 : mj_code 49 16 = some (.getfield 54, 19, 7, 10, 214) := rfl
theorem c_49_19 : mj_code 49 19 = some (.if_icmp .ge 91, 22, 110, 0, 0) := rfl
theorem c_49_22 : mj_code 49 22 = some (.aload_n 0, 23, 0, 0, 0) := rfl
theorem c_49_23 : mj_code 49 23 = some (.getfield 54, 26, 7, 10, 214) := rfl
theorem c_49_26 : mj_code 49 26 = some (.sipush 256, 29, 0, 0, 0) := rfl
theorem c_49_29 : mj_code 49 29 = some (.if_icmp .gt 81, 32, 110, 0, 0) := rfl
theorem c_49_32 : mj_code 49 32 = some (.aload_n 0, 33, 0, 0, 0) := rfl
theorem c_49_33 : mj_code 49 33 = some (.iload 7, 35, 0, 0, 0) := rfl
theorem c_49_35 : mj_code 49 35 = some (.invokevirtual 58, 38, 57, 0, 739) := rfl
theorem c_49_38 : mj_code 49 38 = some (.aload_n 0, 39, 0, 0, 0) := rfl
theorem c_49_39 : mj_code 49 39 = some (.aload_n 0, 40, 0, 0, 0) := rfl
theorem c_49_40 : mj_code 49 40 = some (.getfield 54, 43, 7, 10, 214) := rfl
theorem c_49_43 : mj_code 49 43 = some (.iload 5, 45, 0, 0, 0) := rfl
theorem c_49_45 : mj_code 49 45 = some (.if_icmp .ne 12, 48, 57, 0, 0) := rfl
theorem c_49_48 : mj_code 49 48 = some (.aload_n 0, 49, 0, 0, 0) := rfl
theorem c_49_49 : mj_code 49 49 = some (.iload 7, 51, 0, 0, 0) := rfl
theorem c_49_51 : mj_code 49 51 = some (.invokevirtual 61, 54, 59, 0, 755) := rfl
theorem c_49_54 : mj_code 49 54 = some (.goto 5, 57, 59, 0, 0) := rfl
theorem c_49_57 : mj_code 49 57 = some (.ldc 65, 59, 3000002, 0, 760) := rfl
theorem c_49_59 : mj_code 49 59 = some (.putfield 66, 62, 7, 11, 215) := rfl
theorem c_49_62 : mj_code 49 62 = some (.iconst 0, 63, 0, 0, 0) := rfl
theorem c_49_63 : mj_code 49 63 = some (.istore 8, 65, 0, 0, 0) := rfl
theorem c_49_65 : mj_code 49 65 = some (.iload 8, 67, 0, 0, 0) := rfl
theorem c_49_67 : mj_code 49 67 = some (.iload 4, 69, 0, 0, 0) := rfl
theorem c_49_69 : mj_code 49 69 = some (.if_icmp .ge 35, 72, 104, 0, 0) := rfl
theorem c_49_72 : mj_code 49 72 = some (.aload_n 0, 73, 0, 0, 0) := rfl
theorem c_49_73 : mj_code 49 73 = some (.getfield 22, 76, 7, 2, 206) := rfl
theorem c_49_76 : mj_code 49 76 = some (.iload 7, 78, 0, 0, 0) := rfl
theorem c_49_78 : mj_code 49 78 = some (.iaload, 79, 0, 0, 0) := rfl
theorem c_49_79 : mj_code 49 79 = some (.iconst 1, 80, 0, 0, 0) := rfl
theorem c_49_80 : mj_code 49 80 = some (.iadd, 81, 0, 0, 0) := rfl
theorem c_49_81 : mj_code 49 81 = some (.aload_n 0, 82, 0, 0, 0) := rfl
theorem c_49_82 : mj_code 49 82 = some (.getfield 66, 85, 7, 11, 215) := rfl
theorem c_49_85 : mj_code 49 85 = some (.if_icmp .ge 19, 88, 104, 0, 0) := rfl
theorem c_49_88 : mj_code 49 88 = some (.aload_n 0, 89, 0, 0, 0) := rfl
theorem c_49_89 : mj_code 49 89 = some (.aload_n 3, 90, 0, 0, 0) := rfl
theorem c_49_90 : mj_code 49 90 = some (.iload 8, 92, 0, 0, 0) := rfl
theorem c_49_92 : mj_code 49 92 = some (.aaload, 93, 0, 0, 0) := rfl
theorem c_49_93 : mj_code 49 93 = some (.iload 7, 95, 0, 0, 0) := rfl
theorem c_49_95 : mj_code 49 95 = some (.invokevirtual 69, 98, 54, 0, 761) := rfl
theorem c_49_98 : mj_code 49 98 = some (.iinc 8 1, 101, 0, 0, 0) := rfl
theorem c_49_101 : mj_code 49 101 = some (.goto (-36), 104, 65, 0, 0) := rfl
theorem c_49_104 : mj_code 49 104 = some (.iinc 7 1, 107, 0, 0, 0) := rfl
theorem c_49_107 : mj_code 49 107 = some (.goto (-94), 110, 13, 0, 0) := rfl
theorem c_49_110 : mj_code 49 110 = some (.aload_n 0, 111, 0, 0, 0) := rfl
theorem c_49_111 : mj_code 49 111 = some (.aload 6, 113, 0, 0, 0) := rfl
theorem c_49_113 : mj_code 49 113 = some (.invokevirtual 73, 116, 62, 0, 772) := rfl
theorem c_49_116 : mj_code 49 116 = some (.return_, 117, 0, 0, 0) := rfl
theorem c_50_0 : mj_code 50 0 = some (.aload_n 0, 1, 0, 0, 0) := rfl
theorem c_50_1 : mj_code 50 1 = some (.getfield 14, 4, 7, 0, 204) := rfl
theorem c_50_4 : mj_code 50 4 = some (.iload_n 1, 5, 0, 0, 0) := rfl
theorem c_50_5 : mj_code 50 5 = some (.invokevirtual 77, 8, 12, 0, 712) := rfl
theorem c_50_8 : mj_code 50 8 = some (.istore_n 2, 9, 0, 0, 0) := rfl
theorem c_50_9 : mj_code 50 9 = some (.aload_n 0, 10, 0, 0, 0) := rfl
theorem c_50_10 : mj_code 50 10 = some (.getfield 47, 13, 7, 9, 213) := rfl
theorem c_50_13 : mj_code 50 13 = some (.arraylength, 14, 0, 0, 0) := rfl
theorem c_50_14 : mj_code 50 14 = some (.aload_n 0, 15, 0, 0, 0) := rfl
theorem c_50_15 : mj_code 50 15 = some (.getfield 14, 18, 7, 0, 204) := rfl
theorem c_50_18 : mj_code 50 18 = some (.iload_n 1, 19, 0, 0, 0) := rfl
theorem c_50_19 : mj_code 50 19 = some (.invokevirtual 80, 22, 14, 0, 713) := rfl
theorem c_50_22 : mj_code 50 22 = some (.if_icmp .ge 12, 25, 34, 0, 0) := rfl
theorem c_50_25 : mj_code 50 25 = some (.aload_n 0, 26, 0, 0, 0) := rfl
theorem c_50_26 : mj_code 50 26 = some (.sipush 19683, 29, 0, 0, 0) := rfl
theorem c_50_29 : mj_code 50 29 = some (.newarray .int, 31, 0, 0, 0) := rfl
theorem c_50_31 : mj_code 50 31 = some (.putfield 47, 34, 7, 9, 213) := rfl
theorem c_50_34 : mj_code 50 34 = some (.aload_n 0, 35, 0, 0, 0) := rfl
theorem c_50_35 : mj_code 50 35 = some (.aload_n 0, 36, 0, 0, 0) := rfl
theorem c_50_36 : mj_code 50 36 = some (.getfield 37, 39, 7, 6, 210) := rfl
theorem c_50_39 : mj_code 50 39 = some (.iconst 0, 40, 0, 0, 0) := rfl
theorem c_50_40 : mj_code 50 40 = some (.iload_n 2, 41, 0, 0, 0) := rfl
theorem c_50_41 : mj_code 50 41 = some (.invokevirtual 82, 44, 51, 0, 718) := rfl
theorem c_50_44 : mj_code 50 44 = some (.aload_n 0, 45, 0, 0, 0) := rfl
theorem c_50_45 : mj_code 50 45 = some (.aload_n 0, 46, 0, 0, 0) := rfl
theorem c_50_46 : mj_code 50 46 = some (.getfield 41, 49, 7, 7, 211) := rfl
theorem c_50_49 : mj_code 50 49 = some (.iconst 3, 50, 0, 0, 0) := rfl
theorem c_50_50 : mj_code 50 50 = some (.iload_n 2, 51, 0, 0, 0) := rfl
theorem c_50_51 : mj_code 50 51 = some (.invokevirtual 82, 54, 51, 0, 718) := rfl
theorem c_50_54 : mj_code 50 54 = some (.aload_n 0, 55, 0, 0, 0) := rfl
theorem c_50_55 : mj_code 50 55 = some (.aload_n 0, 56, 0, 0, 0) := rfl
theorem c_50_56 : mj_code 50 56 = some (.getfield 44, 59, 7, 8, 212) := rfl
theorem c_50_59 : mj_code 50 59 = some (.bipush 6, 61, 0, 0, 0) := rfl
theorem c_50_61 : mj_code 50 61 = some (.iload_n 2, 62, 0, 0, 0) := rfl
theorem c_50_62 : mj_code 50 62 = some (.invokevirtual 82, 65, 51, 0, 718) := rfl
theorem c_50_65 : mj_code 50 65 = some (.aload_n 0, 66, 0, 0, 0) := rfl
theorem c_50_66 : mj_code 50 66 = some (.iconst 0, 67, 0, 0, 0) := rfl
theorem c_50_67 : mj_code 50 67 = some (.putfield 54, 70, 7, 10, 214) := rfl
theorem c_50_70 : mj_code 50 70 = some (.aload_n 0, 71, 0, 0, 0) := rfl
theorem c_50_71 : mj_code 50 71 = some (.aload_n 0, 72, 0, 0, 0) := rfl
theorem c_50_72 : mj_code 50 72 = some (.aload_n 0, 73, 0, 0, 0) := rfl
theorem c_50_73 : mj_code 50 73 = some (.getfield 14, 76, 7, 0, 204) := rfl
theorem c_50_76 : mj_code 50 76 = some (.getfield 86, 79, 1, 4, 133) := rfl
theorem c_50_79 : mj_code 50 79 = some (.iload_n 2, 80, 0, 0, 0) := rfl
theorem c_50_80 : mj_code 50 80 = some (.invokevirtual 89, 83, 53, 0, 727) := rfl
theorem c_50_83 : mj_code 50 83 = some (.iconst 0, 84, 0, 0, 0) := rfl
theorem c_50_84 : mj_code 50 84 = some (.invokevirtual 93, 87, 56, 0, 731) := rfl
theorem c_50_87 : mj_code 50 87 = some (.iload_n 1, 88, 0, 0, 0) := rfl
theorem c_50_88 : mj_code 50 88 = some (.iconst 1, 89, 0, 0, 0) := rfl
theorem c_50_89 : mj_code 50 89 = some (.if_icmp .le 20, 92, 109, 0, 0) := rfl
theorem c_50_92 : mj_code 50 92 = some (.aload_n 0, 93, 0, 0, 0) := rfl
theorem c_50_93 : mj_code 50 93 = some (.aload_n 0, 94, 0, 0, 0) := rfl
theorem c_50_94 : mj_code 50 94 = some (.aload_n 0, 95, 0, 0, 0) := rfl
theorem c_50_95 : mj_code 50 95 = some (.getfield 14, 98, 7, 0, 204) := rfl
theorem c_50_98 : mj_code 50 98 = some (.getfield 97, 101, 1, 3, 126) := rfl
theorem c_50_101 : mj_code 50 101 = some (.iload_n 2, 102, 0, 0, 0) := rfl
theorem c_50_102 : mj_code 50 102 = some (.invokevirtual 89, 105, 53, 0, 727) := rfl
theorem c_50_105 : mj_code 50 105 = some (.iconst 0, 106, 0, 0, 0) := rfl
theorem c_50_106 : mj_code 50 106 = some (.invokevirtual 93, 109, 56, 0, 731) := rfl
theorem c_50_109 : mj_code 50 109 = some (.iload_n 1, 110, 0, 0, 0) := rfl
theorem c_50_110 : mj_code 50 110 = some (.iconst 2, 111, 0, 0, 0) := rfl
theorem c_50_111 : mj_code 50 111 = some (.if_icmp .le 20, 114, 131, 0, 0) := rfl
theorem c_50_114 : mj_code 50 114 = some (.aload_n 0, 115, 0, 0, 0) := rfl
theorem c_50_115 : mj_code 50 115 = some (.aload_n 0, 116, 0, 0, 0) := rfl
theorem c_50_116 : mj_code 50 116 = some (.aload_n 0, 117, 0, 0, 0) := rfl
theorem c_50_117 : mj_code 50 117 = some (.getfield 14, 120, 7, 0, 204) := rfl
theorem c_50_120 : mj_code 50 120 = some (.getfield 100, 123, 1, 2, 119) := rfl
theorem c_50_123 : mj_code 50 123 = some (.iload_n 2, 124, 0, 0, 0) := rfl
theorem c_50_124 : mj_code 50 124 = some (.invokevirtual 89, 127, 53, 0, 727) := rfl
theorem c_50_127 : mj_code 50 127 = some (.iconst 0, 128, 0, 0, 0) := rfl
theorem c_50_128 : mj_code 50 128 = some (.invokevirtual 93, 131, 56, 0, 731) := rfl
theorem c_50_131 : mj_code 50 131 = some (.return_, 132, 0, 0, 0) := rfl
theorem c_51_0 : mj_code 51 0 = some (.aload_n 1, 1, 0, 0, 0) := rfl
theorem c_51_1 : mj_code 51 1 = some (.aload_n 0, 2, 0, 0, 0) := rfl
theorem c_51_2 : mj_code 51 2 = some (.iload_n 2, 3, 0, 0, 0) := rfl
theorem c_51_3 : mj_code 51 3 = some (.iload_n 3, 4, 0, 0, 0) := rfl
theorem c_51_4 : mj_code 51 4 = some (.invokevirtual 103, 7, 52, 0, 722) := rfl
theorem c_51_7 : mj_code 51 7 = some (.aload_n 0, 8, 0, 0, 0) := rfl
theorem c_51_8 : mj_code 51 8 = some (.iload_n 2, 9, 0, 0, 0) := rfl
theorem c_51_9 : mj_code 51 9 = some (.iconst 1, 10, 0, 0, 0) := rfl
theorem c_51_10 : mj_code 51 10 = some (.iadd, 11, 0, 0, 0) := rfl
theorem c_51_11 : mj_code 51 11 = some (.iload_n 3, 12, 0, 0, 0) := rfl
theorem c_51_12 : mj_code 51 12 = some (.invokevirtual 103, 15, 52, 0, 722) := rfl
theorem c_51_15 : mj_code 51 15 = some (.aload_n 0, 16, 0, 0, 0) := rfl
theorem c_51_16 : mj_code 51 16 = some (.iload_n 2, 17, 0, 0, 0) := rfl
theorem c_51_17 : mj_code 51 17 = some (.iconst 2, 18, 0, 0, 0) := rfl
theorem c_51_18 : mj_code 51 18 = some (.iadd, 19, 0, 0, 0) := rfl
theorem c_51_19 : mj_code 51 19 = some (.iload_n 3, 20, 0, 0, 0) := rfl
theorem c_51_20 : mj_code 51 20 = some (.invokevirtual 103, 23, 52, 0, 722) := rfl
theorem c_51_23 : mj_code 51 23 = some (.invokevirtual 107, 26, 44, 0, 726) := rfl
theorem c_51_26 : mj_code 51 26 = some (.return_, 27, 0, 0, 0) := rfl
theorem c_52_0 : mj_code 52 0 = some (.iload_n 1, 1, 0, 0, 0) := rfl
theorem c_52_1 : mj_code 52 1 = some (.iload_n 2, 2, 0, 0, 0) := rfl
theorem c_52_2 : mj_code 52 2 = some (.if_icmp .ge 14, 5, 16, 0, 0) := rfl
theorem c_52_5 : mj_code 52 5 = some (.aload_n 0, 6, 0, 0, 0) := rfl
theorem c_52_6 : mj_code 52 6 = some (.getfield 14, 9, 7, 0, 204) := rfl
theorem c_52_9 : mj_code 52 9 = some (.iload_n 1, 10, 0, 0, 0) := rfl
theorem c_52_10 : mj_code 52 10 = some (.invokevirtual 77, 13, 12, 0, 712) := rfl
theorem c_52_13 : mj_code 52 13 = some (.goto 4, 16, 17, 0, 0) := rfl
theorem c_52_16 : mj_code 52 16 = some (.iconst 0, 17, 0, 0, 0) := rfl
theorem c_52_17 : mj_code 52 17 = some (.ireturn, 18, 0, 0, 0) := rfl
theorem c_53_0 : mj_code 53 0 = some (.iconst 0, 1, 0, 0, 0) := rfl
theorem c_53_1 : mj_code 53 1 = some (.istore_n 3, 2, 0, 0, 0) := rfl
theorem c_53_2 : mj_code 53 2 = some (.iload_n 2, 3, 0, 0, 0) := rfl
theorem c_53_3 : mj_code 53 3 = some (.iconst 1, 4, 0, 0, 0) := rfl
theorem c_53_4 : mj_code 53 4 = some (.isub, 5, 0, 0, 0) := rfl
theorem c_53_5 : mj_code 53 5 = some (.istore 4, 7, 0, 0, 0) := rfl
theorem c_53_7 : mj_code 53 7 = some (.iload 4, 9, 0, 0, 0) := rfl
theorem c_53_9 : mj_code 53 9 = some (.ifCond .lt 24, 12, 33, 0, 0) := rfl
theorem c_53_12 : mj_code 53 12 = some (.iload_n 3, 13, 0, 0, 0) := rfl
theorem c_53_13 : mj_code 53 13 = some (.aload_n 0, 14, 0, 0, 0) := rfl
theorem c_53_14 : mj_code 53 14 = some (.getfield 14, 17, 7, 0, 204) := rfl
theorem c_53_17 : mj_code 53 17 = some (.getfield 111, 20, 1, 0, 111) := rfl
theorem c_53_20 : mj_code 53 20 = some (.imul, 21, 0, 0, 0) := rfl
theorem c_53_21 : mj_code 53 21 = some (.aload_n 1, 22, 0, 0, 0) := rfl
theorem c_53_22 : mj_code 53 22 = some (.iload 4, 24, 0, 0, 0) := rfl
theorem c_53_24 : mj_code 53 24 = some (.iaload, 25, 0, 0, 0) := rfl
theorem c_53_25 : mj_code 53 25 = some (.iadd, 26, 0, 0, 0) := rfl
theorem c_53_26 : mj_code 53 26 = some (.istore_n 3, 27, 0, 0, 0) := rfl
theorem c_53_27 : mj_code 53 27 = some (.iinc 4 (-1), 30, 0, 0, 0) := rfl
theorem c_53_30 : mj_code 53 30 = some (.goto (-23), 33, 7, 0, 0) := rfl
theorem c_53_33 : mj_code 53 33 = some (.iload_n 3, 34, 0, 0, 0) := rfl
theorem c_53_34 : mj_code 53 34 = some (.ireturn, 35, 0, 0, 0) := rfl
theorem c_54_0 : mj_code 54 0 = some (.iconst 1, 1, 0, 0, 0) := rfl
theorem c_54_1 : mj_code 54 1 = some (.aload_n 0, 2, 0, 0, 0) := rfl
theorem c_54_2 : mj_code 54 2 = some (.getfield 22, 5, 7, 2, 206) := rfl
theorem c_54_5 : mj_code 54 5 = some (.iload_n 2, 6, 0, 0, 0) := rfl
theorem c_54_6 : mj_code 54 6 = some (.iaload, 7, 0, 0, 0) := rfl
theorem c_54_7 : mj_code 54 7 = some (.iadd, 8, 0, 0, 0) := rfl
theorem c_54_8 : mj_code 54 8 = some (.istore_n 3, 9, 0, 0, 0) := rfl
theorem c_54_9 : mj_code 54 9 = some (.aload_n 1, 10, 0, 0, 0) := rfl
theorem c_54_10 : mj_code 54 10 = some (.getfield 114, 13, 0, 0, 391) := rfl
theorem c_54_13 : mj_code 54 13 = some (.iconst 1, 14, 0, 0, 0) := rfl
theorem c_54_14 : mj_code 54 14 = some (.if_icmp .ne 19, 17, 33, 0, 0) := rfl
theorem c_54_17 : mj_code 54 17 = some (.aload_n 0, 18, 0, 0, 0) := rfl
theorem c_54_18 : mj_code 54 18 = some (.aload_n 1, 19, 0, 0, 0) := rfl
theorem c_54_19 : mj_code 54 19 = some (.getfield 119, 22, 0, 2, 397) := rfl
theorem c_54_22 : mj_code 54 22 = some (.iload_n 2, 23, 0, 0, 0) := rfl
theorem c_54_23 : mj_code 54 23 = some (.iload_n 2, 24, 0, 0, 0) := rfl
theorem c_54_24 : mj_code 54 24 = some (.iload_n 2, 25, 0, 0, 0) := rfl
theorem c_54_25 : mj_code 54 25 = some (.iload_n 2, 26, 0, 0, 0) := rfl
theorem c_54_26 : mj_code 54 26 = some (.iconst 1, 27, 0, 0, 0) := rfl
theorem c_54_27 : mj_code 54 27 = some (.invokevirtual 122, 30, 55, 0, 765) := rfl
theorem c_54_30 : mj_code 54 30 = some (.goto 140, 33, 170, 0, 0) := rfl
theorem c_54_33 : mj_code 54 33 = some (.aload_n 1, 34, 0, 0, 0) := rfl
theorem c_54_34 : mj_code 54 34 = some (.getfield 114, 37, 0, 0, 391) := rfl
theorem c_54_37 : mj_code 54 37 = some (.iconst 2, 38, 0, 0, 0) := rfl
theorem c_54_38 : mj_code 54 38 = some (.if_icmp .ne 34, 41, 72, 0, 0) := rfl
theorem c_54_41 : mj_code 54 41 = some (.aload_n 0, 42, 0, 0, 0) := rfl
theorem c_54_42 : mj_code 54 42 = some (.aload_n 1, 43, 0, 0, 0) := rfl
theorem c_54_43 : mj_code 54 43 = some (.getfield 119, 46, 0, 2, 397) := rfl
theorem c_54_46 : mj_code 54 46 = some (.iload_n 2, 47, 0, 0, 0) := rfl
theorem c_54_47 : mj_code 54 47 = some (.iload_n 2, 48, 0, 0, 0) := rfl
theorem c_54_48 : mj_code 54 48 = some (.iconst 0, 49, 0, 0, 0) := rfl
theorem c_54_49 : mj_code 54 49 = some (.iload_n 2, 50, 0, 0, 0) := rfl
theorem c_54_50 : mj_code 54 50 = some (.iload_n 3, 51, 0, 0, 0) := rfl
theorem c_54_51 : mj_code 54 51 = some (.invokevirtual 122, 54, 55, 0, 765) := rfl
theorem c_54_54 : mj_code 54 54 = some (.aload_n 0, 55, 0, 0, 0) := rfl
theorem c_54_55 : mj_code 54 55 = some (.aload_n 1, 56, 0, 0, 0) := rfl
theorem c_54_56 : mj_code 54 56 = some (.getfield 126, 59, 0, 3, 400) := rfl
theorem c_54_59 : mj_code 54 59 = some (.iload_n 2, 60, 0, 0, 0) := rfl
theorem c_54_60 : mj_code 54 60 = some (.iload_n 2, 61, 0, 0, 0) := rfl
theorem c_54_61 : mj_code 54 61 = some (.iconst 0, 62, 0, 0, 0) := rfl
theorem c_54_62 : mj_code 54 62 = some (.iload_n 2, 63, 0, 0, 0) := rfl
theorem c_54_63 : mj_code 54 63 = some (.iconst 1, 64, 0, 0, 0) := rfl
theorem c_54_64 : mj_code 54 64 = some (.isub, 65, 0, 0, 0) := rfl
theorem c_54_65 : mj_code 54 65 = some (.iload_n 3, 66, 0, 0, 0) := rfl
theorem c_54_66 : mj_code 54 66 = some (.invokevirtual 122, 69, 55, 0, 765) := rfl
theorem c_54_69 : mj_code 54 69 = some (.goto 101, 72, 170, 0, 0) := rfl
theorem c_54_72 : mj_code 54 72 = some (.iconst 0, 73, 0, 0, 0) := rfl
theorem c_54_73 : mj_code 54 73 = some (.istore 4, 75, 0, 0, 0) := rfl
theorem c_54_75 : mj_code 54 75 = some (.iload 4, 77, 0, 0, 0) := rfl
theorem c_54_77 : mj_code 54 77 = some (.iload_n 2, 78, 0, 0, 0) := rfl
theorem c_54_78 : mj_code 54 78 = some (.if_icmp .gt 31, 81, 109, 0, 0) := rfl
theorem c_54_81 : mj_code 54 81 = some (.aload_n 0, 82, 0, 0, 0) := rfl
theorem c_54_82 : mj_code 54 82 = some (.aload_n 1, 83, 0, 0, 0) := rfl
theorem c_54_83 : mj_code 54 83 = some (.getfield 119, 86, 0, 2, 397) := rfl
theorem c_54_86 : mj_code 54 86 = some (.iload_n 2, 87, 0, 0, 0) := rfl
theorem c_54_87 : mj_code 54 87 = some (.iload 4, 89, 0, 0, 0) := rfl
theorem c_54_89 : mj_code 54 89 = some (.iconst 0, 90, 0, 0, 0) := rfl
theorem c_54_90 : mj_code 54 90 = some (.iload_n 2, 91, 0, 0, 0) := rfl
theorem c_54_91 : mj_code 54 91 = some (.iload_n 3, 92, 0, 0, 0) := rfl
theorem c_54_92 : mj_code 54 92 = some (.aload_n 0, 93, 0, 0, 0) := rfl
theorem c_54_93 : mj_code 54 93 = some (.getfield 22, 96, 7, 2, 206) := rfl
theorem c_54_96 : mj_code 54 96 = some (.iload 4, 98, 0, 0, 0) := rfl
theorem c_54_98 : mj_code 54 98 = some (.iaload, 99, 0, 0, 0) := rfl
theorem c_54_99 : mj_code 54 99 = some (.iadd, 100, 0, 0, 0) := rfl
theorem c_54_100 : mj_code 54 100 = some (.invokevirtual 122, 103, 55, 0, 765) := rfl
theorem c_54_103 : mj_code 54 103 = some (.iinc 4 1, 106, 0, 0, 0) := rfl
theorem c_54_106 : mj_code 54 106 = some (.goto (-31), 109, 75, 0, 0) := rfl
theorem c_54_109 : mj_code 54 109 = some (.iconst 0, 110, 0, 0, 0) := rfl
theorem c_54_110 : mj_code 54 110 = some (.istore 4, 112, 0, 0, 0) := rfl
theorem c_54_112 : mj_code 54 112 = some (.iload 4, 114, 0, 0, 0) := rfl
theorem c_54_114 : mj_code 54 114 = some (.iload_n 2, 115, 0, 0, 0) := rfl
theorem c_54_115 : mj_code 54 115 = some (.if_icmp .ge 55, 118, 170, 0, 0) := rfl
theorem c_54_118 : mj_code 54 118 = some (.aload_n 0, 119, 0, 0, 0) := rfl
theorem c_54_119 : mj_code 54 119 = some (.aload_n 1, 120, 0, 0, 0) := rfl
theorem c_54_120 : mj_code 54 120 = some (.getfield 119, 123, 0, 2, 397) := rfl
theorem c_54_123 : mj_code 54 123 = some (.iload 4, 125, 0, 0, 0) := rfl
theorem c_54_125 : mj_code 54 125 = some (.iload_n 2, 126, 0, 0, 0) := rfl
theorem c_54_126 : mj_code 54 126 = some (.iconst 0, 127, 0, 0, 0) := rfl
theorem c_54_127 : mj_code 54 127 = some (.iload_n 2, 128, 0, 0, 0) := rfl
theorem c_54_128 : mj_code 54 128 = some (.iload_n 3, 129, 0, 0, 0) := rfl
theorem c_54_129 : mj_code 54 129 = some (.aload_n 0, 130, 0, 0, 0) := rfl
theorem c_54_130 : mj_code 54 130 = some (.getfield 22, 133, 7, 2, 206) := rfl
theorem c_54_133 : mj_code 54 133 = some (.iload 4, 135, 0, 0, 0) := rfl
theorem c_54_135 : mj_code 54 135 = some (.iaload, 136, 0, 0, 0) := rfl
theorem c_54_136 : mj_code 54 136 = some (.iadd, 137, 0, 0, 0) := rfl
theorem c_54_137 : mj_code 54 137 = some (.invokevirtual 122, 140, 55, 0, 765) := rfl
theorem c_54_140 : mj_code 54 140 = some (.aload_n 0, 141, 0, 0, 0) := rfl
theorem c_54_141 : mj_code 54 141 = some (.aload_n 1, 142, 0, 0, 0) := rfl
theorem c_54_142 : mj_code 54 142 = some (.getfield 126, 145, 0, 3, 400) := rfl
theorem c_54_145 : mj_code 54 145 = some (.iload 4, 147, 0, 0, 0) := rfl
theorem c_54_147 : mj_code 54 147 = some (.iload_n 2, 148, 0, 0, 0) := rfl
theorem c_54_148 : mj_code 54 148 = some (.iconst 0, 149, 0, 0, 0) := rfl
theorem c_54_149 : mj_code 54 149 = some (.iload_n 2, 150, 0, 0, 0) := rfl
theorem c_54_150 : mj_code 54 150 = some (.iconst 1, 151, 0, 0, 0) := rfl
theorem c_54_151 : mj_code 54 151 = some (.isub, 152, 0, 0, 0) := rfl
theorem c_54_152 : mj_code 54 152 = some (.iload_n 3, 153, 0, 0, 0) := rfl
theorem c_54_153 : mj_code 54 153 = some (.aload_n 0, 154, 0, 0, 0) := rfl
theorem c_54_154 : mj_code 54 154 = some (.getfield 22, 157, 7, 2, 206) := rfl
theorem c_54_157 : mj_code 54 157 = some (.iload 4, 159, 0, 0, 0) := rfl
theorem c_54_159 : mj_code 54 159 = some (.iaload, 160, 0, 0, 0) := rfl
theorem c_54_160 : mj_code 54 160 = some (.iadd, 161, 0, 0, 0) := rfl
theorem c_54_161 : mj_code 54 161 = some (.invokevirtual 122, 164, 55, 0, 765) := rfl
theorem c_54_164 : mj_code 54 164 = some (.iinc 4 1, 167, 0, 0, 0) := rfl
theorem c_54_167 : mj_code 54 167 = some (.goto (-55), 170, 112, 0, 0) := rfl
theorem c_54_170 : mj_code 54 170 = some (.return_, 171, 0, 0, 0) := rfl
theorem c_55_0 : mj_code 55 0 = some (.iload 4, 2, 0, 0, 0) := rfl
theorem c_55_2 : mj_code 55 2 = some (.iload 5, 4, 0, 0, 0) := rfl
theorem c_55_4 : mj_code 55 4 = some (.if_icmp .gt 30, 7, 34, 0, 0) := rfl
theorem c_55_7 : mj_code 55 7 = some (.aload_n 0, 8, 0, 0, 0) := rfl
theorem c_55_8 : mj_code 55 8 = some (.getfield 54, 11, 7, 10, 214) := rfl
theorem c_55_11 : mj_code 55 11 = some (.sipush 256, 14, 0, 0, 0) := rfl
theorem c_55_14 : mj_code 55 14 = some (.if_icmp .gt 20, 17, 34, 0, 0) := rfl
theorem c_55_17 : mj_code 55 17 = some (.iload 6, 19, 0, 0, 0) := rfl
theorem c_55_19 : mj_code 55 19 = some (.aload_n 0, 20, 0, 0, 0) := rfl
theorem c_55_20 : mj_code 55 20 = some (.getfield 22, 23, 7, 2, 206) := rfl
theorem c_55_23 : mj_code 55 23 = some (.iload 4, 25, 0, 0, 0) := rfl
theorem c_55_25 : mj_code 55 25 = some (.iaload, 26, 0, 0, 0) := rfl
theorem c_55_26 : mj_code 55 26 = some (.iadd, 27, 0, 0, 0) := rfl
theorem c_55_27 : mj_code 55 27 = some (.aload_n 0, 28, 0, 0, 0) := rfl
theorem c_55_28 : mj_code 55 28 = some (.getfield 66, 31, 7, 11, 215) := rfl
theorem c_55_31 : mj_code 55 31 = some (.if_icmp .lt 4, 34, 35, 0, 0) := rfl
theorem c_55_34 : mj_code 55 34 = some (.return_, 35, 0, 0, 0) := rfl
theorem c_55_35 : mj_code 55 35 = some (.aload_n 0, 36, 0, 0, 0) := rfl
theorem c_55_36 : mj_code 55 36 = some (.getfield 37, 39, 7, 6, 210) := rfl
theorem c_55_39 : mj_code 55 39 = some (.aload_n 0, 40, 0, 0, 0) := rfl
theorem c_55_40 : mj_code 55 40 = some (.getfield 14, 43, 7, 0, 204) := rfl
theorem c_55_43 : mj_code 55 43 = some (.aload_n 1, 44, 0, 0, 0) := rfl
theorem c_55_44 : mj_code 55 44 = some (.aload_n 0, 45, 0, 0, 0) := rfl
theorem c_55_45 : mj_code 55 45 = some (.getfield 25, 48, 7, 3, 207) := rfl
theorem c_55_48 : mj_code 55 48 = some (.iload_n 2, 49, 0, 0, 0) := rfl
theorem c_55_49 : mj_code 55 49 = some (.iaload, 50, 0, 0, 0) := rfl
theorem c_55_50 : mj_code 55 50 = some (.aload_n 0, 51, 0, 0, 0) := rfl
theorem c_55_51 : mj_code 55 51 = some (.getfield 25, 54, 7, 3, 207) := rfl
theorem c_55_54 : mj_code 55 54 = some (.iload_n 3, 55, 0, 0, 0) := rfl
theorem c_55_55 : mj_code 55 55 = some (.iaload, 56, 0, 0, 0) := rfl
theorem c_55_56 : mj_code 55 56 = some (.invokevirtual 129, 59, 45, 0, 769) := rfl
theorem c_55_59 : mj_code 55 59 = some (.aload_n 0, 60, 0, 0, 0) := rfl
theorem c_55_60 : mj_code 55 60 = some (.getfield 41, 63, 7, 7, 211) := rfl
theorem c_55_63 : mj_code 55 63 = some (.aload_n 0, 64, 0, 0, 0) := rfl
theorem c_55_64 : mj_code 55 64 = some (.getfield 14, 67, 7, 0, 204) := rfl
theorem c_55_67 : mj_code 55 67 = some (.aload_n 1, 68, 0, 0, 0) := rfl
theorem c_55_68 : mj_code 55 68 = some (.aload_n 0, 69, 0, 0, 0) := rfl
theorem c_55_69 : mj_code 55 69 = some (.getfield 28, 72, 7, 4, 208) := rfl
theorem c_55_72 : mj_code 55 72 = some (.iload_n 2, 73, 0, 0, 0) := rfl
theorem c_55_73 : mj_code 55 73 = some (.iaload, 74, 0, 0, 0) := rfl
theorem c_55_74 : mj_code 55 74 = some (.aload_n 0, 75, 0, 0, 0) := rfl
theorem c_55_75 : mj_code 55 75 = some (.getfield 28, 78, 7, 4, 208) := rfl
theorem c_55_78 : mj_code 55 78 = some (.iload_n 3, 79, 0, 0, 0) := rfl
theorem c_55_79 : mj_code 55 79 = some (.iaload, 80, 0, 0, 0) := rfl
theorem c_55_80 : mj_code 55 80 = some (.invokevirtual 129, 83, 45, 0, 769) := rfl
theorem c_55_83 : mj_code 55 83 = some (.aload_n 0, 84, 0, 0, 0) := rfl
theorem c_55_84 : mj_code 55 84 = some (.getfield 44, 87, 7, 8, 212) := rfl
theorem c_55_87 : mj_code 55 87 = some (.aload_n 0, 88, 0, 0, 0) := rfl
theorem c_55_88 : mj_code 55 88 = some (.getfield 14, 91, 7, 0, 204) := rfl
theorem c_55_91 : mj_code 55 91 = some (.aload_n 1, 92, 0, 0, 0) := rfl
theorem c_55_92 : mj_code 55 92 = some (.aload_n 0, 93, 0, 0, 0) := rfl
theorem c_55_93 : mj_code 55 93 = some (.getfield 31, 96, 7, 5, 209) := rfl
theorem c_55_96 : mj_code 55 96 = some (.iload_n 2, 97, 0, 0, 0) := rfl
theorem c_55_97 : mj_code 55 97 = some (.iaload, 98, 0, 0, 0) := rfl
theorem c_55_98 : mj_code 55 98 = some (.aload_n 0, 99, 0, 0, 0) := rfl
theorem c_55_99 : mj_code 55 99 = some (.getfield 31, 102, 7, 5, 209) := rfl
theorem c_55_102 : mj_code 55 102 = some (.iload_n 3, 103, 0, 0, 0) := rfl
theorem c_55_103 : mj_code 55 103 = some (.iaload, 104, 0, 0, 0) := rfl
theorem c_55_104 : mj_code 55 104 = some (.invokevirtual 129, 107, 45, 0, 769) := rfl
theorem c_55_107 : mj_code 55 107 = some (.iload 4, 109, 0, 0, 0) := rfl
theorem c_55_109 : mj_code 55 109 = some (.istore 7, 111, 0, 0, 0) := rfl
theorem c_55_111 : mj_code 55 111 = some (.iload 7, 113, 0, 0, 0) := rfl
theorem c_55_113 : mj_code 55 113 = some (.iload 5, 115, 0, 0, 0) := rfl
theorem c_55_115 : mj_code 55 115 = some (.if_icmp .gt 133, 118, 248, 0, 0) := rfl
theorem c_55_118 : mj_code 55 118 = some (.iload 6, 120, 0, 0, 0) := rfl
theorem c_55_120 : mj_code 55 120 = some (.aload_n 0, 121, 0, 0, 0) := rfl
theorem c_55_121 : mj_code 55 121 = some (.getfield 22, 124, 7, 2, 206) := rfl
theorem c_55_124 : mj_code 55 124 = some (.iload 7, 126, 0, 0, 0) := rfl
theorem c_55_126 : mj_code 55 126 = some (.iaload, 127, 0, 0, 0) := rfl
theorem c_55_127 : mj_code 55 127 = some (.iadd, 128, 0, 0, 0) := rfl
theorem c_55_128 : mj_code 55 128 = some (.istore 8, 130, 0, 0, 0) := rfl
theorem c_55_130 : mj_code 55 130 = some (.iload 8, 132, 0, 0, 0) := rfl
theorem c_55_132 : mj_code 55 132 = some (.aload_n 0, 133, 0, 0, 0) := rfl
theorem c_55_133 : mj_code 55 133 = some (.getfield 66, 136, 7, 11, 215) := rfl
theorem c_55_136 : mj_code 55 136 = some (.if_icmp .lt 4, 139, 140, 0, 0) := rfl
theorem c_55_139 : mj_code 55 139 = some (.return_, 140, 0, 0, 0) := rfl
theorem c_55_140 : mj_code 55 140 = some (.aload_n 0, 141, 0, 0, 0) := rfl
theorem c_55_141 : mj_code 55 141 = some (.getfield 37, 144, 7, 6, 210) := rfl
theorem c_55_144 : mj_code 55 144 = some (.getfield 133, 147, 5, 0, 191) := rfl
theorem c_55_147 : mj_code 55 147 = some (.aload_n 0, 148, 0, 0, 0) := rfl
theorem c_55_148 : mj_code 55 148 = some (.getfield 25, 151, 7, 3, 207) := rfl
theorem c_55_151 : mj_code 55 151 = some (.iload 7, 153, 0, 0, 0) := rfl
theorem c_55_153 : mj_code 55 153 = some (.iaload, 154, 0, 0, 0) := rfl
theorem c_55_154 : mj_code 55 154 = some (.iaload, 155, 0, 0, 0) := rfl
theorem c_55_155 : mj_code 55 155 = some (.aload_n 0, 156, 0, 0, 0) := rfl
theorem c_55_156 : mj_code 55 156 = some (.getfield 41, 159, 7, 7, 211) := rfl
theorem c_55_159 : mj_code 55 159 = some (.getfield 133, 162, 5, 0, 191) := rfl
theorem c_55_162 : mj_code 55 162 = some (.aload_n 0, 163, 0, 0, 0) := rfl
theorem c_55_163 : mj_code 55 163 = some (.getfield 28, 166, 7, 4, 208) := rfl
theorem c_55_166 : mj_code 55 166 = some (.iload 7, 168, 0, 0, 0) := rfl
theorem c_55_168 : mj_code 55 168 = some (.iaload, 169, 0, 0, 0) := rfl
theorem c_55_169 : mj_code 55 169 = some (.iaload, 170, 0, 0, 0) := rfl
theorem c_55_170 : mj_code 55 170 = some (.iadd, 171, 0, 0, 0) := rfl
theorem c_55_171 : mj_code 55 171 = some (.aload_n 0, 172, 0, 0, 0) := rfl
theorem c_55_172 : mj_code 55 172 = some (.getfield 44, 175, 7, 8, 212) := rfl
theorem c_55_175 : mj_code 55 175 = some (.getfield 133, 178, 5, 0, 191) := rfl
theorem c_55_178 : mj_code 55 178 = some (.aload_n 0, 179, 0, 0, 0) := rfl
theorem c_55_179 : mj_code 55 179 = some (.getfield 31, 182, 7, 5, 209) := rfl
theorem c_55_182 : mj_code 55 182 = some (.iload 7, 184, 0, 0, 0) := rfl
theorem c_55_184 : mj_code 55 184 = some (.iaload, 185, 0, 0, 0) := rfl
theorem c_55_185 : mj_code 55 185 = some (.iaload, 186, 0, 0, 0) := rfl
theorem c_55_186 : mj_code 55 186 = some (.iadd, 187, 0, 0, 0) := rfl
theorem c_55_187 : mj_code 55 187 = some (.istore 9, 189, 0, 0, 0) := rfl
theorem c_55_189 : mj_code 55 189 = some (.aload_n 0, 190, 0, 0, 0) := rfl
theorem c_55_190 : mj_code 55 190 = some (.getfield 47, 193, 7, 9, 213) := rfl
theorem c_55_193 : mj_code 55 193 = some (.iload 9, 195, 0, 0, 0) := rfl
theorem c_55_195 : mj_code 55 195 = some (.iaload, 196, 0, 0, 0) := rfl
theorem c_55_196 : mj_code 55 196 = some (.iconst 1, 197, 0, 0, 0) := rfl
theorem c_55_197 : mj_code 55 197 = some (.isub, 198, 0, 0, 0) := rfl
theorem c_55_198 : mj_code 55 198 = some (.istore 10, 200, 0, 0, 0) := rfl
theorem c_55_200 : mj_code 55 200 = some (.iload 10, 202, 0, 0, 0) := rfl
theorem c_55_202 : mj_code 55 202 = some (.ifCond .ge 19, 205, 221, 0, 0) := rfl
theorem c_55_205 : mj_code 55 205 = some (.aload_n 0, 206, 0, 0, 0) := rfl
theorem c_55_206 : mj_code 55 206 = some (.iload 9, 208, 0, 0, 0) := rfl
theorem c_55_208 : mj_code 55 208 = some (.iload 8, 210, 0, 0, 0) := rfl
theorem c_55_210 : mj_code 55 210 = some (.ldc 136, 212, 1000000, 0, 770) := rfl
theorem c_55_212 : mj_code 55 212 = some (.invokestatic 137, 215, 206, 1, 771) := rfl
theorem c_55_215 : mj_code 55 215 = some (.invokevirtual 93, 218, 56, 0, 731) := rfl
theorem c_55_218 : mj_code 55 218 = some (.goto 24, 221, 242, 0, 0) := rfl
theorem c_55_221 : mj_code 55 221 = some (.iload 8, 223, 0, 0, 0) := rfl
theorem c_55_223 : mj_code 55 223 = some (.aload_n 0, 224, 0, 0, 0) := rfl
theorem c_55_224 : mj_code 55 224 = some (.getfield 22, 227, 7, 2, 206) := rfl
theorem c_55_227 : mj_code 55 227 = some (.iload 10, 229, 0, 0, 0) := rfl
theorem c_55_229 : mj_code 55 229 = some (.iaload, 230, 0, 0, 0) := rfl
theorem c_55_230 : mj_code 55 230 = some (.if_icmp .ge 12, 233, 242, 0, 0) := rfl
theorem c_55_233 : mj_code 55 233 = some (.aload_n 0, 234, 0, 0, 0) := rfl
theorem c_55_234 : mj_code 55 234 = some (.getfield 22, 237, 7, 2, 206) := rfl
theorem c_55_237 : mj_code 55 237 = some (.iload 10, 239, 0, 0, 0) := rfl
theorem c_55_239 : mj_code 55 239 = some (.iload 8, 241, 0, 0, 0) := rfl
theorem c_55_241 : mj_code 55 241 = some (.iastore, 242, 0, 0, 0) := rfl
theorem c_55_242 : mj_code 55 242 = some (.iinc 7 1, 245, 0, 0, 0) := rfl
theorem c_55_245 : mj_code 55 245 = some (.goto (-134), 248, 111, 0, 0) := rfl
theorem c_55_248 : mj_code 55 248 = some (.return_, 249, 0, 0, 0) := rfl
theorem c_56_0 : mj_code 56 0 = some (.aload_n 0, 1, 0, 0, 0) := rfl
theorem c_56_1 : mj_code 56 1 = some (.getfield 54, 4, 7, 10, 214) := rfl
theorem c_56_4 : mj_code 56 4 = some (.sipush 256, 7, 0, 0, 0) := rfl
theorem c_56_7 : mj_code 56 7 = some (.if_icmp .le 4, 10, 11, 0, 0) := rfl
theorem c_56_10 : mj_code 56 10 = some (.return_, 11, 0, 0, 0) := rfl
theorem c_56_11 : mj_code 56 11 = some (.aload_n 0, 12, 0, 0, 0) := rfl
theorem c_56_12 : mj_code 56 12 = some (.getfield 18, 15, 7, 1, 205) := rfl
theorem c_56_15 : mj_code 56 15 = some (.aload_n 0, 16, 0, 0, 0) := rfl
theorem c_56_16 : mj_code 56 16 = some (.getfield 54, 19, 7, 10, 214) := rfl
theorem c_56_19 : mj_code 56 19 = some (.iload_n 1, 20, 0, 0, 0) := rfl
theorem c_56_20 : mj_code 56 20 = some (.iastore, 21, 0, 0, 0) := rfl
theorem c_56_21 : mj_code 56 21 = some (.aload_n 0, 22, 0, 0, 0) := rfl
theorem c_56_22 : mj_code 56 22 = some (.getfield 22, 25, 7, 2, 206) := rfl
theorem c_56_25 : mj_code 56 25 = some (.aload_n 0, 26, 0, 0, 0) := rfl
theorem c_56_26 : mj_code 56 26 = some (.getfield 54, 29, 7, 10, 214) := rfl
theorem c_56_29 : mj_code 56 29 = some (.iload_n 2, 30, 0, 0, 0) := rfl
theorem c_56_30 : mj_code 56 30 = some (.iastore, 31, 0, 0, 0) := rfl
theorem c_56_31 : mj_code 56 31 = some (.aload_n 0, 32, 0, 0, 0) := rfl
theorem c_56_32 : mj_code 56 32 = some (.getfield 25, 35, 7, 3, 207) := rfl
theorem c_56_35 : mj_code 56 35 = some (.aload_n 0, 36, 0, 0, 0) := rfl
theorem c_56_36 : mj_code 56 36 = some (.getfield 54, 39, 7, 10, 214) := rfl
theorem c_56_39 : mj_code 56 39 = some (.aload_n 0, 40, 0, 0, 0) := rfl
theorem c_56_40 : mj_code 56 40 = some (.getfield 14, 43, 7, 0, 204) := rfl
theorem c_56_43 : mj_code 56 43 = some (.iload_n 1, 44, 0, 0, 0) := rfl
theorem c_56_44 : mj_code 56 44 = some (.iconst 0, 45, 0, 0, 0) := rfl
theorem c_56_45 : mj_code 56 45 = some (.invokevirtual 142, 48, 18, 0, 735) := rfl
theorem c_56_48 : mj_code 56 48 = some (.iastore, 49, 0, 0, 0) := rfl
theorem c_56_49 : mj_code 56 49 = some (.aload_n 0, 50, 0, 0, 0) := rfl
theorem c_56_50 : mj_code 56 50 = some (.getfield 28, 53, 7, 4, 208) := rfl
theorem c_56_53 : mj_code 56 53 = some (.aload_n 0, 54, 0, 0, 0) := rfl
theorem c_56_54 : mj_code 56 54 = some (.getfield 54, 57, 7, 10, 214) := rfl
theorem c_56_57 : mj_code 56 57 = some (.aload_n 0, 58, 0, 0, 0) := rfl
theorem c_56_58 : mj_code 56 58 = some (.getfield 14, 61, 7, 0, 204) := rfl
theorem c_56_61 : mj_code 56 61 = some (.iload_n 1, 62, 0, 0, 0) := rfl
theorem c_56_62 : mj_code 56 62 = some (.iconst 3, 63, 0, 0, 0) := rfl
theorem c_56_63 : mj_code 56 63 = some (.invokevirtual 142, 66, 18, 0, 735) := rfl
theorem c_56_66 : mj_code 56 66 = some (.iastore, 67, 0, 0, 0) := rfl
theorem c_56_67 : mj_code 56 67 = some (.aload_n 0, 68, 0, 0, 0) := rfl
theorem c_56_68 : mj_code 56 68 = some (.getfield 31, 71, 7, 5, 209) := rfl
theorem c_56_71 : mj_code 56 71 = some (.aload_n 0, 72, 0, 0, 0) := rfl
theorem c_56_72 : mj_code 56 72 = some (.getfield 54, 75, 7, 10, 214) := rfl
theorem c_56_75 : mj_code 56 75 = some (.aload_n 0, 76, 0, 0, 0) := rfl
theorem c_56_76 : mj_code 56 76 = some (.getfield 14, 79, 7, 0, 204) := rfl
theorem c_56_79 : mj_code 56 79 = some (.iload_n 1, 80, 0, 0, 0) := rfl
theorem c_56_80 : mj_code 56 80 = some (.bipush 6, 82, 0, 0, 0) := rfl
theorem c_56_82 : mj_code 56 82 = some (.invokevirtual 142, 85, 18, 0, 735) := rfl
theorem c_56_85 : mj_code 56 85 = some (.iastore, 86, 0, 0, 0) := rfl
theorem c_56_86 : mj_code 56 86 = some (.aload_n 0, 87, 0, 0, 0) := rfl
theorem c_56_87 : mj_code 56 87 = some (.dup, 88, 0, 0, 0) := rfl
theorem c_56_88 : mj_code 56 88 = some (.getfield 54, 91, 7, 10, 214) := rfl
theorem c_56_91 : mj_code 56 91 = some (.iconst 1, 92, 0, 0, 0) := rfl
theorem c_56_92 : mj_code 56 92 = some (.iadd, 93, 0, 0, 0) := rfl
theorem c_56_93 : mj_code 56 93 = some (.putfield 54, 96, 7, 10, 214) := rfl
theorem c_56_96 : mj_code 56 96 = some (.aload_n 0, 97, 0, 0, 0) := rfl
theorem c_56_97 : mj_code 56 97 = some (.getfield 47, 100, 7, 9, 213) := rfl
theorem c_56_100 : mj_code 56 100 = some (.iload_n 1, 101, 0, 0, 0) := rfl
theorem c_56_101 : mj_code 56 101 = some (.aload_n 0, 102, 0, 0, 0) := rfl
theorem c_56_102 : mj_code 56 102 = some (.getfield 54, 105, 7, 10, 214) := rfl
theorem c_56_105 : mj_code 56 105 = some (.iastore, 106, 0, 0, 0) := rfl
theorem c_56_106 : mj_code 56 106 = some (.return_, 107, 0, 0, 0) := rfl
theorem c_57_0 : mj_code 57 0 = some (.iload_n 1, 1, 0, 0, 0) := rfl
theorem c_57_1 : mj_code 57 1 = some (.istore_n 2, 2, 0, 0, 0) := rfl
theorem c_57_2 : mj_code 57 2 = some (.iload_n 1, 3, 0, 0, 0) := rfl
theorem c_57_3 : mj_code 57 3 = some (.iconst 1, 4, 0, 0, 0) := rfl
theorem c_57_4 : mj_code 57 4 = some (.iadd, 5, 0, 0, 0) := rfl
theorem c_57_5 : mj_code 57 5 = some (.istore_n 3, 6, 0, 0, 0) := rfl
theorem c_57_6 : mj_code 57 6 = some (.iload_n 3, 7, 0, 0, 0) := rfl
theorem c_57_7 : mj_code 57 7 = some (.aload_n 0, 8, 0, 0, 0) := rfl
theorem c_57_8 : mj_code 57 8 = some (.getfield 54, 11, 7, 10, 214) := rfl
theorem c_57_11 : mj_code 57 11 = some (.if_icmp .ge 20, 14, 31, 0, 0) := rfl
theorem c_57_14 : mj_code 57 14 = some (.aload_n 0, 15, 0, 0, 0) := rfl
theorem c_57_15 : mj_code 57 15 = some (.iload_n 3, 16, 0, 0, 0) := rfl
theorem c_57_16 : mj_code 57 16 = some (.iload_n 2, 17, 0, 0, 0) := rfl
theorem c_57_17 : mj_code 57 17 = some (.invokevirtual 145, 20, 58, 0, 743) := rfl
theorem c_57_20 : mj_code 57 20 = some (.ifCond .eq 5, 23, 25, 0, 0) := rfl
theorem c_57_23 : mj_code 57 23 = some (.iload_n 3, 24, 0, 0, 0) := rfl
theorem c_57_24 : mj_code 57 24 = some (.istore_n 2, 25, 0, 0, 0) := rfl
theorem c_57_25 : mj_code 57 25 = some (.iinc 3 1, 28, 0, 0, 0) := rfl
theorem c_57_28 : mj_code 57 28 = some (.goto (-22), 31, 6, 0, 0) := rfl
theorem c_57_31 : mj_code 57 31 = some (.aload_n 0, 32, 0, 0, 0) := rfl
theorem c_57_32 : mj_code 57 32 = some (.iload_n 1, 33, 0, 0, 0) := rfl
theorem c_57_33 : mj_code 57 33 = some (.iload_n 2, 34, 0, 0, 0) := rfl
theorem c_57_34 : mj_code 57 34 = some (.invokevirtual 149, 37, 60, 0, 747) := rfl
theorem c_57_37 : mj_code 57 37 = some (.return_, 38, 0, 0, 0) := rfl
theorem c_58_0 : mj_code 58 0 = some (.aload_n 0, 1, 0, 0, 0) := rfl
theorem c_58_1 : mj_code 58 1 = some (.getfield 22, 4, 7, 2, 206) := rfl
theorem c_58_4 : mj_code 58 4 = some (.iload_n 1, 5, 0, 0, 0) := rfl
theorem c_58_5 : mj_code 58 5 = some (.iaload, 6, 0, 0, 0) := rfl
theorem c_58_6 : mj_code 58 6 = some (.aload_n 0, 7, 0, 0, 0) := rfl
theorem c_58_7 : mj_code 58 7 = some (.getfield 22, 10, 7, 2, 206) := rfl
theorem c_58_10 : mj_code 58 10 = some (.iload_n 2, 11, 0, 0, 0) := rfl
theorem c_58_11 : mj_code 58 11 = some (.iaload, 12, 0, 0, 0) := rfl
theorem c_58_12 : mj_code 58 12 = some (.if_icmp .lt 33, 15, 45, 0, 0) := rfl
theorem c_58_15 : mj_code 58 15 = some (.aload_n 0, 16, 0, 0, 0) := rfl
theorem c_58_16 : mj_code 58 16 = some (.getfield 22, 19, 7, 2, 206) := rfl
theorem c_58_19 : mj_code 58 19 = some (.iload_n 1, 20, 0, 0, 0) := rfl
theorem c_58_20 : mj_code 58 20 = some (.iaload, 21, 0, 0, 0) := rfl
theorem c_58_21 : mj_code 58 21 = some (.aload_n 0, 22, 0, 0, 0) := rfl
theorem c_58_22 : mj_code 58 22 = some (.getfield 22, 25, 7, 2, 206) := rfl
theorem c_58_25 : mj_code 58 25 = some (.iload_n 2, 26, 0, 0, 0) := rfl
theorem c_58_26 : mj_code 58 26 = some (.iaload, 27, 0, 0, 0) := rfl
theorem c_58_27 : mj_code 58 27 = some (.if_icmp .ne 22, 30, 49, 0, 0) := rfl
theorem c_58_30 : mj_code 58 30 = some (.aload_n 0, 31, 0, 0, 0) := rfl
theorem c_58_31 : mj_code 58 31 = some (.getfield 18, 34, 7, 1, 205) := rfl
theorem c_58_34 : mj_code 58 34 = some (.iload_n 1, 35, 0, 0, 0) := rfl
theorem c_58_35 : mj_code 58 35 = some (.iaload, 36, 0, 0, 0) := rfl
theorem c_58_36 : mj_code 58 36 = some (.aload_n 0, 37, 0, 0, 0) := rfl
theorem c_58_37 : mj_code 58 37 = some (.getfield 18, 40, 7, 1, 205) := rfl
theorem c_58_40 : mj_code 58 40 = some (.iload_n 2, 41, 0, 0, 0) := rfl
theorem c_58_41 : mj_code 58 41 = some (.iaload, 42, 0, 0, 0) := rfl
theorem c_58_42 : mj_code 58 42 = some (.if_icmp .ge 7, 45, 49, 0, 0) := rfl
theorem c_58_45 : mj_code 58 45 = some (.iconst 1, 46, 0, 0, 0) := rfl
theorem c_58_46 : mj_code 58 46 = some (.goto 4, 49, 50, 0, 0) := rfl
theorem c_58_49 : mj_code 58 49 = some (.iconst 0, 50, 0, 0, 0) := rfl
theorem c_58_50 : mj_code 58 50 = some (.ireturn, 51, 0, 0, 0) := rfl
theorem c_59_0 : mj_code 59 0 = some (.iconst 0, 1, 0, 0, 0) := rfl
theorem c_59_1 : mj_code 59 1 = some (.istore_n 2, 2, 0, 0, 0) := rfl
theorem c_59_2 : mj_code 59 2 = some (.iload_n 1, 3, 0, 0, 0) := rfl
theorem c_59_3 : mj_code 59 3 = some (.istore_n 3, 4, 0, 0, 0) := rfl
theorem c_59_4 : mj_code 59 4 = some (.iload_n 3, 5, 0, 0, 0) := rfl
theorem c_59_5 : mj_code 59 5 = some (.aload_n 0, 6, 0, 0, 0) := rfl
theorem c_59_6 : mj_code 59 6 = some (.getfield 54, 9, 7, 10, 214) := rfl
theorem c_59_9 : mj_code 59 9 = some (.if_icmp .ge 20, 12, 29, 0, 0) := rfl
theorem c_59_12 : mj_code 59 12 = some (.iload_n 2, 13, 0, 0, 0) := rfl
theorem c_59_13 : mj_code 59 13 = some (.aload_n 0, 14, 0, 0, 0) := rfl
theorem c_59_14 : mj_code 59 14 = some (.getfield 22, 17, 7, 2, 206) := rfl
theorem c_59_17 : mj_code 59 17 = some (.iload_n 3, 18, 0, 0, 0) := rfl
theorem c_59_18 : mj_code 59 18 = some (.iaload, 19, 0, 0, 0) := rfl
theorem c_59_19 : mj_code 59 19 = some (.invokestatic 152, 22, 205, 1, 759) := rfl
theorem c_59_22 : mj_code 59 22 = some (.istore_n 2, 23, 0, 0, 0) := rfl
theorem c_59_23 : mj_code 59 23 = some (.iinc 3 1, 26, 0, 0, 0) := rfl
theorem c_59_26 : mj_code 59 26 = some (.goto (-22), 29, 4, 0, 0) := rfl
theorem c_59_29 : mj_code 59 29 = some (.iload_n 2, 30, 0, 0, 0) := rfl
theorem c_59_30 : mj_code 59 30 = some (.ireturn, 31, 0, 0, 0) := rfl
theorem c_60_0 : mj_code 60 0 = some (.aload_n 0, 1, 0, 0, 0) := rfl
theorem c_60_1 : mj_code 60 1 = some (.aload_n 0, 2, 0, 0, 0) := rfl
theorem c_60_2 : mj_code 60 2 = some (.getfield 18, 5, 7, 1, 205) := rfl
theorem c_60_5 : mj_code 60 5 = some (.iload_n 1, 6, 0, 0, 0) := rfl
theorem c_60_6 : mj_code 60 6 = some (.iload_n 2, 7, 0, 0, 0) := rfl
theorem c_60_7 : mj_code 60 7 = some (.invokevirtual 155, 10, 61, 0, 751) := rfl
theorem c_60_10 : mj_code 60 10 = some (.aload_n 0, 11, 0, 0, 0) := rfl
theorem c_60_11 : mj_code 60 11 = some (.aload_n 0, 12, 0, 0, 0) := rfl
theorem c_60_12 : mj_code 60 12 = some (.getfield 22, 15, 7, 2, 206) := rfl
theorem c_60_15 : mj_code 60 15 = some (.iload_n 1, 16, 0, 0, 0) := rfl
theorem c_60_16 : mj_code 60 16 = some (.iload_n 2, 17, 0, 0, 0) := rfl
theorem c_60_17 : mj_code 60 17 = some (.invokevirtual 155, 20, 61, 0, 751) := rfl
theorem c_60_20 : mj_code 60 20 = some (.aload_n 0, 21, 0, 0, 0) := rfl
theorem c_60_21 : mj_code 60 21 = some (.aload_n 0, 22, 0, 0, 0) := rfl
theorem c_60_22 : mj_code 60 22 = some (.getfield 25, 25, 7, 3, 207) := rfl
theorem c_60_25 : mj_code 60 25 = some (.iload_n 1, 26, 0, 0, 0) := rfl
theorem c_60_26 : mj_code 60 26 = some (.iload_n 2, 27, 0, 0, 0) := rfl
theorem c_60_27 : mj_code 60 27 = some (.invokevirtual 155, 30, 61, 0, 751) := rfl
theorem c_60_30 : mj_code 60 30 = some (.aload_n 0, 31, 0, 0, 0) := rfl
theorem c_60_31 : mj_code 60 31 = some (.aload_n 0, 32, 0, 0, 0) := rfl
theorem c_60_32 : mj_code 60 32 = some (.getfield 28, 35, 7, 4, 208) := rfl
theorem c_60_35 : mj_code 60 35 = some (.iload_n 1, 36, 0, 0, 0) := rfl
theorem c_60_36 : mj_code 60 36 = some (.iload_n 2, 37, 0, 0, 0) := rfl
theorem c_60_37 : mj_code 60 37 = some (.invokevirtual 155, 40, 61, 0, 751) := rfl
theorem c_60_40 : mj_code 60 40 = some (.aload_n 0, 41, 0, 0, 0) := rfl
theorem c_60_41 : mj_code 60 41 = some (.aload_n 0, 42, 0, 0, 0) := rfl
theorem c_60_42 : mj_code 60 42 = some (.getfield 31, 45, 7, 5, 209) := rfl
theorem c_60_45 : mj_code 60 45 = some (.iload_n 1, 46, 0, 0, 0) := rfl
theorem c_60_46 : mj_code 60 46 = some (.iload_n 2, 47, 0, 0, 0) := rfl
theorem c_60_47 : mj_code 60 47 = some (.invokevirtual 155, 50, 61, 0, 751) := rfl
theorem c_60_50 : mj_code 60 50 = some (.aload_n 0, 51, 0, 0, 0) := rfl
theorem c_60_51 : mj_code 60 51 = some (.getfield 47, 54, 7, 9, 213) := rfl
theorem c_60_54 : mj_code 60 54 = some (.aload_n 0, 55, 0, 0, 0) := rfl
theorem c_60_55 : mj_code 60 55 = some (.getfield 18, 58, 7, 1, 205) := rfl
theorem c_60_58 : mj_code 60 58 = some (.iload_n 1, 59, 0, 0, 0) := rfl
theorem c_60_59 : mj_code 60 59 = some (.iaload, 60, 0, 0, 0) := rfl
theorem c_60_60 : mj_code 60 60 = some (.iload_n 1, 61, 0, 0, 0) := rfl
theorem c_60_61 : mj_code 60 61 = some (.iconst 1, 62, 0, 0, 0) := rfl
theorem c_60_62 : mj_code 60 62 = some (.iadd, 63, 0, 0, 0) := rfl
theorem c_60_63 : mj_code 60 63 = some (.iastore, 64, 0, 0, 0) := rfl
theorem c_60_64 : mj_code 60 64 = some (.aload_n 0, 65, 0, 0, 0) := rfl
theorem c_60_65 : mj_code 60 65 = some (.getfield 47, 68, 7, 9, 213) := rfl
theorem c_60_68 : mj_code 60 68 = some (.aload_n 0, 69, 0, 0, 0) := rfl
theorem c_60_69 : mj_code 60 69 = some (.getfield 18, 72, 7, 1, 205) := rfl
theorem c_60_72 : mj_code 60 72 = some (.iload_n 2, 73, 0, 0, 0) := rfl
theorem c_60_73 : mj_code 60 73 = some (.iaload, 74, 0, 0, 0) := rfl
theorem c_60_74 : mj_code 60 74 = some (.iload_n 2, 75, 0, 0, 0) := rfl
theorem c_60_75 : mj_code 60 75 = some (.iconst 1, 76, 0, 0, 0) := rfl
theorem c_60_76 : mj_code 60 76 = some (.iadd, 77, 0, 0, 0) := rfl
theorem c_60_77 : mj_code 60 77 = some (.iastore, 78, 0, 0, 0) := rfl
theorem c_60_78 : mj_code 60 78 = some (.return_, 79, 0, 0, 0) := rfl
theorem c_61_0 : mj_code 61 0 = some (.aload_n 1, 1, 0, 0, 0) := rfl
theorem c_61_1 : mj_code 61 1 = some (.iload_n 2, 2, 0, 0, 0) := rfl
theorem c_61_2 : mj_code 61 2 = some (.iaload, 3, 0, 0, 0) := rfl
theorem c_61_3 : mj_code 61 3 = some (.istore 4, 5, 0, 0, 0) := rfl
theorem c_61_5 : mj_code 61 5 = some (.aload_n 1, 6, 0, 0, 0) := rfl
theorem c_61_6 : mj_code 61 6 = some (.iload_n 2, 7, 0, 0, 0) := rfl
theorem c_61_7 : mj_code 61 7 = some (.aload_n 1, 8, 0, 0, 0) := rfl
theorem c_61_8 : mj_code 61 8 = some (.iload_n 3, 9, 0, 0, 0) := rfl
theorem c_61_9 : mj_code 61 9 = some (.iaload, 10, 0, 0, 0) := rfl
theorem c_61_10 : mj_code 61 10 = some (.iastore, 11, 0, 0, 0) := rfl
theorem c_61_11 : mj_code 61 11 = some (.aload_n 1, 12, 0, 0, 0) := rfl
theorem c_61_12 : mj_code 61 12 = some (.iload_n 3, 13, 0, 0, 0) := rfl
theorem c_61_13 : mj_code 61 13 = some (.iload 4, 15, 0, 0, 0) := rfl
theorem c_61_15 : mj_code 61 15 = some (.iastore, 16, 0, 0, 0) := rfl
theorem c_61_16 : mj_code 61 16 = some (.return_, 17, 0, 0, 0) := rfl
theorem c_62_0 : mj_code 62 0 = some (.aload_n 1, 1, 0, 0, 0) := rfl
theorem c_62_1 : mj_code 62 1 = some (.iconst 1, 2, 0, 0, 0) := rfl
theorem c_62_2 : mj_code 62 2 = some (.putfield 159, 5, 6, 0, 415) := rfl
theorem c_62_5 : mj_code 62 5 = some (.aload_n 1, 6, 0, 0, 0) := rfl
theorem c_62_6 : mj_code 62 6 = some (.aload_n 0, 7, 0, 0, 0) := rfl
theorem c_62_7 : mj_code 62 7 = some (.getfield 54, 10, 7, 10, 214) := rfl
theorem c_62_10 : mj_code 62 10 = some (.sipush 256, 13, 0, 0, 0) := rfl
theorem c_62_13 : mj_code 62 13 = some (.if_icmp .le 7, 16, 20, 0, 0) := rfl
theorem c_62_16 : mj_code 62 16 = some (.iconst 1, 17, 0, 0, 0) := rfl
theorem c_62_17 : mj_code 62 17 = some (.goto 4, 20, 21, 0, 0) := rfl
theorem c_62_20 : mj_code 62 20 = some (.iconst 0, 21, 0, 0, 0) := rfl
theorem c_62_21 : mj_code 62 21 = some (.putfield 165, 24, 6, 1, 418) := rfl
theorem c_62_24 : mj_code 62 24 = some (.aload_n 1, 25, 0, 0, 0) := rfl
theorem c_62_25 : mj_code 62 25 = some (.aload_n 1, 26, 0, 0, 0) := rfl
theorem c_62_26 : mj_code 62 26 = some (.getfield 165, 29, 6, 1, 418) := rfl
theorem c_62_29 : mj_code 62 29 = some (.ifCond .eq 7, 32, 36, 0, 0) := rfl
theorem c_62_32 : mj_code 62 32 = some (.iconst 0, 33, 0, 0, 0) := rfl
theorem c_62_33 : mj_code 62 33 = some (.goto 7, 36, 40, 0, 0) := rfl
theorem c_62_36 : mj_code 62 36 = some (.aload_n 0, 37, 0, 0, 0) := rfl
theorem c_62_37 : mj_code 62 37 = some (.getfield 54, 40, 7, 10, 214) := rfl
theorem c_62_40 : mj_code 62 40 = some (.putfield 168, 43, 6, 2, 421) := rfl
theorem c_62_43 : mj_code 62 43 = some (.iconst 0, 44, 0, 0, 0) := rfl
theorem c_62_44 : mj_code 62 44 = some (.istore_n 2, 45, 0, 0, 0) := rfl
theorem c_62_45 : mj_code 62 45 = some (.iload_n 2, 46, 0, 0, 0) := rfl
theorem c_62_46 : mj_code 62 46 = some (.aload_n 1, 47, 0, 0, 0) := rfl
theorem c_62_47 : mj_code 62 47 = some (.getfield 168, 50, 6, 2, 421) := rfl
theorem c_62_50 : mj_code 62 50 = some (.if_icmp .ge 38, 53, 88, 0, 0) := rfl
theorem c_62_53 : mj_code 62 53 = some (.aload_n 0, 54, 0, 0, 0) := rfl
theorem c_62_54 : mj_code 62 54 = some (.iload_n 2, 55, 0, 0, 0) := rfl
theorem c_62_55 : mj_code 62 55 = some (.invokevirtual 58, 58, 57, 0, 739) := rfl
theorem c_62_58 : mj_code 62 58 = some (.aload_n 1, 59, 0, 0, 0) := rfl
theorem c_62_59 : mj_code 62 59 = some (.getfield 169, 62, 6, 3, 424) := rfl
theorem c_62_62 : mj_code 62 62 = some (.iload_n 2, 63, 0, 0, 0) := rfl
theorem c_62_63 : mj_code 62 63 = some (.aload_n 0, 64, 0, 0, 0) := rfl
theorem c_62_64 : mj_code 62 64 = some (.getfield 18, 67, 7, 1, 205) := rfl
theorem c_62_67 : mj_code 62 67 = some (.iload_n 2, 68, 0, 0, 0) := rfl
theorem c_62_68 : mj_code 62 68 = some (.iaload, 69, 0, 0, 0) := rfl
theorem c_62_69 : mj_code 62 69 = some (.iastore, 70, 0, 0, 0) := rfl
theorem c_62_70 : mj_code 62 70 = some (.aload_n 1, 71, 0, 0, 0) := rfl
theorem c_62_71 : mj_code 62 71 = some (.getfield 170, 74, 6, 4, 427) := rfl
theorem c_62_74 : mj_code 62 74 = some (.iload_n 2, 75, 0, 0, 0) := rfl
theorem c_62_75 : mj_code 62 75 = some (.aload_n 0, 76, 0, 0, 0) := rfl
theorem c_62_76 : mj_code 62 76 = some (.getfield 22, 79, 7, 2, 206) := rfl
theorem c_62_79 : mj_code 62 79 = some (.iload_n 2, 80, 0, 0, 0) := rfl
theorem c_62_80 : mj_code 62 80 = some (.iaload, 81, 0, 0, 0) := rfl
theorem c_62_81 : mj_code 62 81 = some (.iastore, 82, 0, 0, 0) := rfl
theorem c_62_82 : mj_code 62 82 = some (.iinc 2 1, 85, 0, 0, 0) := rfl
theorem c_62_85 : mj_code 62 85 = some (.goto (-40), 88, 45, 0, 0) := rfl
theorem c_62_88 : mj_code 62 88 = some (.iconst 0, 89, 0, 0, 0) := rfl
theorem c_62_89 : mj_code 62 89 = some (.istore_n 2, 90, 0, 0, 0) := rfl
theorem c_62_90 : mj_code 62 90 = some (.iload_n 2, 91, 0, 0, 0) := rfl
theorem c_62_91 : mj_code 62 91 = some (.aload_n 0, 92, 0, 0, 0) := rfl
theorem c_62_92 : mj_code 62 92 = some (.getfield 54, 95, 7, 10, 214) := rfl
theorem c_62_95 : mj_code 62 95 = some (.if_icmp .ge 21, 98, 116, 0, 0) := rfl
theorem c_62_98 : mj_code 62 98 = some (.aload_n 0, 99, 0, 0, 0) := rfl
theorem c_62_99 : mj_code 62 99 = some (.getfield 47, 102, 7, 9, 213) := rfl
theorem c_62_102 : mj_code 62 102 = some (.aload_n 0, 103, 0, 0, 0) := rfl
theorem c_62_103 : mj_code 62 103 = some (.getfield 18, 106, 7, 1, 205) := rfl
theorem c_62_106 : mj_code 62 106 = some (.iload_n 2, 107, 0, 0, 0) := rfl
theorem c_62_107 : mj_code 62 107 = some (.iaload, 108, 0, 0, 0) := rfl
theorem c_62_108 : mj_code 62 108 = some (.iconst 0, 109, 0, 0, 0) := rfl
theorem c_62_109 : mj_code 62 109 = some (.iastore, 110, 0, 0, 0) := rfl
theorem c_62_110 : mj_code 62 110 = some (.iinc 2 1, 113, 0, 0, 0) := rfl
theorem c_62_113 : mj_code 62 113 = some (.goto (-23), 116, 90, 0, 0) := rfl
theorem c_62_116 : mj_code 62 116 = some (.return_, 117, 0, 0, 0) := rfl
theorem c_64_0 : mj_code 64 0 = some (.aload_n 0, 1, 0, 0, 0) := rfl
theorem c_64_1 : mj_code 64 1 = some (.iload_n 1, 2, 0, 0, 0) := rfl
theorem c_64_2 : mj_code 64 2 = some (.putfield 25, 5, 8, 5, 288) := rfl
theorem c_64_5 : mj_code 64 5 = some (.aload_n 0, 6, 0, 0, 0) := rfl
theorem c_64_6 : mj_code 64 6 = some (.iload_n 2, 7, 0, 0, 0) := rfl
theorem c_64_7 : mj_code 64 7 = some (.bipush 9, 9, 0, 0, 0) := rfl
theorem c_64_9 : mj_code 64 9 = some (.invokestatic 29, 12, 206, 1, 814) := rfl
theorem c_64_12 : mj_code 64 12 = some (.putfield 35, 15, 8, 6, 289) := rfl
theorem c_64_15 : mj_code 64 15 = some (.aload_n 0, 16, 0, 0, 0) := rfl
theorem c_64_16 : mj_code 64 16 = some (.iconst 1, 17, 0, 0, 0) := rfl
theorem c_64_17 : mj_code 64 17 = some (.aload_n 0, 18, 0, 0, 0) := rfl
theorem c_64_18 : mj_code 64 18 = some (.getfield 25, 21, 8, 5, 288) := rfl
theorem c_64_21 : mj_code 64 21 = some (.aload_n 0, 22, 0, 0, 0) := rfl
theorem c_64_22 : mj_code 64 22 = some (.getfield 25, 25, 8, 5, 288) := rfl
theorem c_64_25 : mj_code 64 25 = some (.imul, 26, 0, 0, 0) := rfl
theorem c_64_26 : mj_code 64 26 = some (.aload_n 0, 27, 0, 0, 0) := rfl
theorem c_64_27 : mj_code 64 27 = some (.getfield 25, 30, 8, 5, 288) := rfl
theorem c_64_30 : mj_code 64 30 = some (.imul, 31, 0, 0, 0) := rfl
theorem c_64_31 : mj_code 64 31 = some (.ishl, 32, 0, 0, 0) := rfl
theorem c_64_32 : mj_code 64 32 = some (.iconst 1, 33, 0, 0, 0) := rfl
theorem c_64_33 : mj_code 64 33 = some (.isub, 34, 0, 0, 0) := rfl
theorem c_64_34 : mj_code 64 34 = some (.putfield 38, 37, 8, 7, 290) := rfl
theorem c_64_37 : mj_code 64 37 = some (.aload_n 0, 38, 0, 0, 0) := rfl
theorem c_64_38 : mj_code 64 38 = some (.getfield 13, 41, 8, 1, 284) := rfl
theorem c_64_41 : mj_code 64 41 = some (.aload_n 0, 42, 0, 0, 0) := rfl
theorem c_64_42 : mj_code 64 42 = some (.getfield 38, 45, 8, 7, 290) := rfl
theorem c_64_45 : mj_code 64 45 = some (.invokestatic 41, 48, 208, 1, 815) := rfl
theorem c_64_48 : mj_code 64 48 = some (.return_, 49, 0, 0, 0) := rfl
theorem c_65_0 : mj_code 65 0 = some (.aload_n 0, 1, 0, 0, 0) := rfl
theorem c_65_1 : mj_code 65 1 = some (.getfield 13, 4, 8, 1, 284) := rfl
theorem c_65_4 : mj_code 65 4 = some (.iload_n 1, 5, 0, 0, 0) := rfl
theorem c_65_5 : mj_code 65 5 = some (.bipush 9, 7, 0, 0, 0) := rfl
theorem c_65_7 : mj_code 65 7 = some (.imul, 8, 0, 0, 0) := rfl
theorem c_65_8 : mj_code 65 8 = some (.iload_n 2, 9, 0, 0, 0) := rfl
theorem c_65_9 : mj_code 65 9 = some (.iadd, 10, 0, 0, 0) := rfl
theorem c_65_10 : mj_code 65 10 = some (.bipush 9, 12, 0, 0, 0) := rfl
theorem c_65_12 : mj_code 65 12 = some (.imul, 13, 0, 0, 0) := rfl
theorem c_65_13 : mj_code 65 13 = some (.iload_n 3, 14, 0, 0, 0) := rfl
theorem c_65_14 : mj_code 65 14 = some (.iadd, 15, 0, 0, 0) := rfl
theorem c_65_15 : mj_code 65 15 = some (.dup2, 16, 0, 0, 0) := rfl
theorem c_65_16 : mj_code 65 16 = some (.iaload, 17, 0, 0, 0) := rfl
theorem c_65_17 : mj_code 65 17 = some (.iload 4, 19, 0, 0, 0) := rfl
theorem c_65_19 : mj_code 65 19 = some (.iand, 20, 0, 0, 0) := rfl
theorem c_65_20 : mj_code 65 20 = some (.iastore, 21, 0, 0, 0) := rfl
theorem c_65_21 : mj_code 65 21 = some (.return_, 22, 0, 0, 0) := rfl
theorem c_66_0 : mj_code 66 0 = some (.aload_n 2, 1, 0, 0, 0) := rfl
theorem c_66_1 : mj_code 66 1 = some (.aload_n 3, 2, 0, 0, 0) := rfl
theorem c_66_2 : mj_code 66 2 = some (.invokevirtual 47, 5, 37, 0, 824) := rfl
theorem c_66_5 : mj_code 66 5 = some (.ifCond .eq 4, 8, 9, 0, 0) := rfl
theorem c_66_8 : mj_code 66 8 = some (.return_, 9, 0, 0, 0) := rfl
theorem c_66_9 : mj_code 66 9 = some (.aload_n 2, 10, 0, 0, 0) := rfl
theorem c_66_10 : mj_code 66 10 = some (.aload_n 1, 11, 0, 0, 0) := rfl
theorem c_66_11 : mj_code 66 11 = some (.getfield 53, 14, 2, 0, 314) := rfl
theorem c_66_14 : mj_code 66 14 = some (.iconst 3, 15, 0, 0, 0) := rfl
theorem c_66_15 : mj_code 66 15 = some (.invokevirtual 58, 18, 41, 0, 828) := rfl
theorem c_66_18 : mj_code 66 18 = some (.istore 4, 20, 0, 0, 0) := rfl
theorem c_66_20 : mj_code 66 20 = some (.aload_n 2, 21, 0, 0, 0) := rfl
theorem c_66_21 : mj_code 66 21 = some (.aload_n 1, 22, 0, 0, 0) := rfl
theorem c_66_22 : mj_code 66 22 = some (.getfield 53, 25, 2, 0, 314) := rfl
theorem c_66_25 : mj_code 66 25 = some (.iconst 2, 26, 0, 0, 0) := rfl
theorem c_66_26 : mj_code 66 26 = some (.invokevirtual 58, 29, 41, 0, 828) := rfl
theorem c_66_29 : mj_code 66 29 = some (.istore 5, 31, 0, 0, 0) := rfl
theorem c_66_31 : mj_code 66 31 = some (.iconst 0, 32, 0, 0, 0) := rfl
theorem c_66_32 : mj_code 66 32 = some (.istore 6, 34, 0, 0, 0) := rfl
theorem c_66_34 : mj_code 66 34 = some (.iload 6, 36, 0, 0, 0) := rfl
theorem c_66_36 : mj_code 66 36 = some (.iload 4, 38, 0, 0, 0) := rfl
theorem c_66_38 : mj_code 66 38 = some (.if_icmp .ge 150, 41, 188, 0, 0) := rfl
theorem c_66_41 : mj_code 66 41 = some (.iconst 0, 42, 0, 0, 0) := rfl
theorem c_66_42 : mj_code 66 42 = some (.istore 7, 44, 0, 0, 0) := rfl
theorem c_66_44 : mj_code 66 44 = some (.iload 7, 46, 0, 0, 0) := rfl
theorem c_66_46 : mj_code 66 46 = some (.iload 5, 48, 0, 0, 0) := rfl
theorem c_66_48 : mj_code 66 48 = some (.if_icmp .ge 134, 51, 182, 0, 0) := rfl
theorem c_66_51 : mj_code 66 51 = some (.iconst 0, 52, 0, 0, 0) := rfl
theorem c_66_52 : mj_code 66 52 = some (.istore 8, 54, 0, 0, 0) := rfl
theorem c_66_54 : mj_code 66 54 = some (.iload 8, 56, 0, 0, 0) := rfl
theorem c_66_56 : mj_code 66 56 = some (.aload_n 2, 57, 0, 0, 0) := rfl
theorem c_66_57 : mj_code 66 57 = some (.getfield 61, 60, 4, 3, 366) := rfl
theorem c_66_60 : mj_code 66 60 = some (.if_icmp .ge 116, 63, 176, 0, 0) := rfl
theorem c_66_63 : mj_code 66 63 = some (.aload_n 1, 64, 0, 0, 0) := rfl
theorem c_66_64 : mj_code 66 64 = some (.aload_n 3, 65, 0, 0, 0) := rfl
theorem c_66_65 : mj_code 66 65 = some (.getfield 64, 68, 1, 2, 121) := rfl
theorem c_66_68 : mj_code 66 68 = some (.aload_n 2, 69, 0, 0, 0) := rfl
theorem c_66_69 : mj_code 66 69 = some (.getfield 69, 72, 4, 4, 369) := rfl
theorem c_66_72 : mj_code 66 72 = some (.iload 6, 74, 0, 0, 0) := rfl
theorem c_66_74 : mj_code 66 74 = some (.iaload, 75, 0, 0, 0) := rfl
theorem c_66_75 : mj_code 66 75 = some (.aload_n 2, 76, 0, 0, 0) := rfl
theorem c_66_76 : mj_code 66 76 = some (.getfield 69, 79, 4, 4, 369) := rfl
theorem c_66_79 : mj_code 66 79 = some (.iload 7, 81, 0, 0, 0) := rfl
theorem c_66_81 : mj_code 66 81 = some (.iaload, 82, 0, 0, 0) := rfl
theorem c_66_82 : mj_code 66 82 = some (.aload_n 2, 83, 0, 0, 0) := rfl
theorem c_66_83 : mj_code 66 83 = some (.getfield 69, 86, 4, 4, 369) := rfl
theorem c_66_86 : mj_code 66 86 = some (.iload 8, 88, 0, 0, 0) := rfl
theorem c_66_88 : mj_code 66 88 = some (.iaload, 89, 0, 0, 0) := rfl
theorem c_66_89 : mj_code 66 89 = some (.invokevirtual 72, 92, 24, 0, 829) := rfl
theorem c_66_92 : mj_code 66 92 = some (.istore 9, 94, 0, 0, 0) := rfl
theorem c_66_94 : mj_code 66 94 = some (.aload_n 1, 95, 0, 0, 0) := rfl
theorem c_66_95 : mj_code 66 95 = some (.aload_n 3, 96, 0, 0, 0) := rfl
theorem c_66_96 : mj_code 66 96 = some (.getfield 76, 99, 1, 3, 128) := rfl
theorem c_66_99 : mj_code 66 99 = some (.aload_n 2, 100, 0, 0, 0) := rfl
theorem c_66_100 : mj_code 66 100 = some (.getfield 69, 103, 4, 4, 369) := rfl
theorem c_66_103 : mj_code 66 103 = some (.iload 6, 105, 0, 0, 0) := rfl
theorem c_66_105 : mj_code 66 105 = some (.iaload, 106, 0, 0, 0) := rfl
theorem c_66_106 : mj_code 66 106 = some (.aload_n 2, 107, 0, 0, 0) := rfl
theorem c_66_107 : mj_code 66 107 = some (.getfield 69, 110, 4, 4, 369) := rfl
theorem c_66_110 : mj_code 66 110 = some (.iload 7, 112, 0, 0, 0) := rfl
theorem c_66_112 : mj_code 66 112 = some (.iaload, 113, 0, 0, 0) := rfl
theorem c_66_113 : mj_code 66 113 = some (.aload_n 2, 114, 0, 0, 0) := rfl
theorem c_66_114 : mj_code 66 114 = some (.getfield 69, 117, 4, 4, 369) := rfl
theorem c_66_117 : mj_code 66 117 = some (.iload 8, 119, 0, 0, 0) := rfl
theorem c_66_119 : mj_code 66 119 = some (.iaload, 120, 0, 0, 0) := rfl
theorem c_66_120 : mj_code 66 120 = some (.invokevirtual 72, 123, 24, 0, 829) := rfl
theorem c_66_123 : mj_code 66 123 = some (.istore 10, 125, 0, 0, 0) := rfl
theorem c_66_125 : mj_code 66 125 = some (.aload_n 1, 126, 0, 0, 0) := rfl
theorem c_66_126 : mj_code 66 126 = some (.aload_n 3, 127, 0, 0, 0) := rfl
theorem c_66_127 : mj_code 66 127 = some (.getfield 79, 130, 1, 4, 135) := rfl
theorem c_66_130 : mj_code 66 130 = some (.aload_n 2, 131, 0, 0, 0) := rfl
theorem c_66_131 : mj_code 66 131 = some (.getfield 69, 134, 4, 4, 369) := rfl
theorem c_66_134 : mj_code 66 134 = some (.iload 6, 136, 0, 0, 0) := rfl
theorem c_66_136 : mj_code 66 136 = some (.iaload, 137, 0, 0, 0) := rfl
theorem c_66_137 : mj_code 66 137 = some (.aload_n 2, 138, 0, 0, 0) := rfl
theorem c_66_138 : mj_code 66 138 = some (.getfield 69, 141, 4, 4, 369) := rfl
theorem c_66_141 : mj_code 66 141 = some (.iload 7, 143, 0, 0, 0) := rfl
theorem c_66_143 : mj_code 66 143 = some (.iaload, 144, 0, 0, 0) := rfl
theorem c_66_144 : mj_code 66 144 = some (.aload_n 2, 145, 0, 0, 0) := rfl
theorem c_66_145 : mj_code 66 145 = some (.getfield 69, 148, 4, 4, 369) := rfl
theorem c_66_148 : mj_code 66 148 = some (.iload 8, 150, 0, 0, 0) := rfl
theorem c_66_150 : mj_code 66 150 = some (.iaload, 151, 0, 0, 0) := rfl
theorem c_66_151 : mj_code 66 151 = some (.invokevirtual 72, 154, 24, 0, 829) := rfl
theorem c_66_154 : mj_code 66 154 = some (.istore 11, 156, 0, 0, 0) := rfl
theorem c_66_156 : mj_code 66 156 = some (.aload_n 0, 157, 0, 0, 0) := rfl
theorem c_66_157 : mj_code 66 157 = some (.iload 9, 159, 0, 0, 0) := rfl
theorem c_66_159 : mj_code 66 159 = some (.iload 10, 161, 0, 0, 0) := rfl
theorem c_66_161 : mj_code 66 161 = some (.iload 11, 163, 0, 0, 0) := rfl
theorem c_66_163 : mj_code 66 163 = some (.aload_n 2, 164, 0, 0, 0) := rfl
theorem c_66_164 : mj_code 66 164 = some (.getfield 82, 167, 4, 2, 363) := rfl
theorem c_66_167 : mj_code 66 167 = some (.invokevirtual 85, 170, 65, 0, 833) := rfl
theorem c_66_170 : mj_code 66 170 = some (.iinc 8 1, 173, 0, 0, 0) := rfl
theorem c_66_173 : mj_code 66 173 = some (.goto (-119), 176, 54, 0, 0) := rfl
theorem c_66_176 : mj_code 66 176 = some (.iinc 7 1, 179, 0, 0, 0) := rfl
theorem c_66_179 : mj_code 66 179 = some (.goto (-135), 182, 44, 0, 0) := rfl
theorem c_66_182 : mj_code 66 182 = some (.iinc 6 1, 185, 0, 0, 0) := rfl
theorem c_66_185 : mj_code 66 185 = some (.goto (-151), 188, 34, 0, 0) := rfl
theorem c_66_188 : mj_code 66 188 = some (.return_, 189, 0, 0, 0) := rfl
theorem c_67_0 : mj_code 67 0 = some (.iconst 0, 1, 0, 0, 0) := rfl
theorem c_67_1 : mj_code 67 1 = some (.istore_n 1, 2, 0, 0, 0) := rfl
theorem c_67_2 : mj_code 67 2 = some (.iconst 0, 3, 0, 0, 0) := rfl
theorem c_67_3 : mj_code 67 3 = some (.istore_n 2, 4, 0, 0, 0) := rfl
theorem c_67_4 : mj_code 67 4 = some (.iload_n 2, 5, 0, 0, 0) := rfl
theorem c_67_5 : mj_code 67 5 = some (.aload_n 0, 6, 0, 0, 0) := rfl
theorem c_67_6 : mj_code 67 6 = some (.getfield 35, 9, 8, 6, 289) := rfl
theorem c_67_9 : mj_code 67 9 = some (.if_icmp .ge 144, 12, 153, 0, 0) := rfl
theorem c_67_12 : mj_code 67 12 = some (.aload_n 0, 13, 0, 0, 0) := rfl
theorem c_67_13 : mj_code 67 13 = some (.getfield 22, 16, 8, 4, 287) := rfl
theorem c_67_16 : mj_code 67 16 = some (.iload_n 2, 17, 0, 0, 0) := rfl
theorem c_67_17 : mj_code 67 17 = some (.iload_n 1, 18, 0, 0, 0) := rfl
theorem c_67_18 : mj_code 67 18 = some (.iastore, 19, 0, 0, 0) := rfl
theorem c_67_19 : mj_code 67 19 = some (.iconst 0, 20, 0, 0, 0) := rfl
theorem c_67_20 : mj_code 67 20 = some (.istore_n 3, 21, 0, 0, 0) := rfl
theorem c_67_21 : mj_code 67 21 = some (.iload_n 3, 22, 0, 0, 0) := rfl
theorem c_67_22 : mj_code 67 22 = some (.iload_n 2, 23, 0, 0, 0) := rfl
theorem c_67_23 : mj_code 67 23 = some (.if_icmp .gt 124, 26, 147, 0, 0) := rfl
theorem c_67_26 : mj_code 67 26 = some (.iconst 0, 27, 0, 0, 0) := rfl
theorem c_67_27 : mj_code 67 27 = some (.istore 4, 29, 0, 0, 0) := rfl
theorem c_67_29 : mj_code 67 29 = some (.iload 4, 31, 0, 0, 0) := rfl
theorem c_67_31 : mj_code 67 31 = some (.iload_n 2, 32, 0, 0, 0) := rfl
theorem c_67_32 : mj_code 67 32 = some (.if_icmp .gt 109, 35, 141, 0, 0) := rfl
theorem c_67_35 : mj_code 67 35 = some (.iload_n 3, 36, 0, 0, 0) := rfl
theorem c_67_36 : mj_code 67 36 = some (.iload_n 2, 37, 0, 0, 0) := rfl
theorem c_67_37 : mj_code 67 37 = some (.if_icmp .eq 9, 40, 46, 0, 0) := rfl
theorem c_67_40 : mj_code 67 40 = some (.iload 4, 42, 0, 0, 0) := rfl
theorem c_67_42 : mj_code 67 42 = some (.iload_n 2, 43, 0, 0, 0) := rfl
theorem c_67_43 : mj_code 67 43 = some (.if_icmp .ne 7, 46, 50, 0, 0) := rfl
theorem c_67_46 : mj_code 67 46 = some (.iconst 1, 47, 0, 0, 0) := rfl
theorem c_67_47 : mj_code 67 47 = some (.goto 4, 50, 51, 0, 0) := rfl
theorem c_67_50 : mj_code 67 50 = some (.iconst 0, 51, 0, 0, 0) := rfl
theorem c_67_51 : mj_code 67 51 = some (.istore 5, 53, 0, 0, 0) := rfl
theorem c_67_53 : mj_code 67 53 = some (.iload 5, 55, 0, 0, 0) := rfl
theorem c_67_55 : mj_code 67 55 = some (.ifCond .eq 7, 58, 62, 0, 0) := rfl
theorem c_67_58 : mj_code 67 58 = some (.iconst 0, 59, 0, 0, 0) := rfl
theorem c_67_59 : mj_code 67 59 = some (.goto 4, 62, 63, 0, 0) := rfl
theorem c_67_62 : mj_code 67 62 = some (.iload_n 2, 63, 0, 0, 0) := rfl
theorem c_67_63 : mj_code 67 63 = some (.istore 6, 65, 0, 0, 0) := rfl
theorem c_67_65 : mj_code 67 65 = some (.iload 6, 67, 0, 0, 0) := rfl
theorem c_67_67 : mj_code 67 67 = some (.iload_n 2, 68, 0, 0, 0) := rfl
theorem c_67_68 : mj_code 67 68 = some (.if_icmp .gt 67, 71, 135, 0, 0) := rfl
theorem c_67_71 : mj_code 67 71 = some (.aload_n 0, 72, 0, 0, 0) := rfl
theorem c_67_72 : mj_code 67 72 = some (.getfield 13, 75, 8, 1, 284) := rfl
theorem c_67_75 : mj_code 67 75 = some (.iload_n 3, 76, 0, 0, 0) := rfl
theorem c_67_76 : mj_code 67 76 = some (.bipush 9, 78, 0, 0, 0) := rfl
theorem c_67_78 : mj_code 67 78 = some (.imul, 79, 0, 0, 0) := rfl
theorem c_67_79 : mj_code 67 79 = some (.iload 4, 81, 0, 0, 0) := rfl
theorem c_67_81 : mj_code 67 81 = some (.iadd, 82, 0, 0, 0) := rfl
theorem c_67_82 : mj_code 67 82 = some (.bipush 9, 84, 0, 0, 0) := rfl
theorem c_67_84 : mj_code 67 84 = some (.imul, 85, 0, 0, 0) := rfl
theorem c_67_85 : mj_code 67 85 = some (.iload 6, 87, 0, 0, 0) := rfl
theorem c_67_87 : mj_code 67 87 = some (.iadd, 88, 0, 0, 0) := rfl
theorem c_67_88 : mj_code 67 88 = some (.iaload, 89, 0, 0, 0) := rfl
theorem c_67_89 : mj_code 67 89 = some (.istore 7, 91, 0, 0, 0) := rfl
theorem c_67_91 : mj_code 67 91 = some (.iload 7, 93, 0, 0, 0) := rfl
theorem c_67_93 : mj_code 67 93 = some (.aload_n 0, 94, 0, 0, 0) := rfl
theorem c_67_94 : mj_code 67 94 = some (.getfield 38, 97, 8, 7, 290) := rfl
theorem c_67_97 : mj_code 67 97 = some (.if_icmp .eq 32, 100, 129, 0, 0) := rfl
theorem c_67_100 : mj_code 67 100 = some (.aload_n 0, 101, 0, 0, 0) := rfl
theorem c_67_101 : mj_code 67 101 = some (.getfield 16, 104, 8, 2, 285) := rfl
theorem c_67_104 : mj_code 67 104 = some (.iload_n 1, 105, 0, 0, 0) := rfl
theorem c_67_105 : mj_code 67 105 = some (.iload_n 3, 106, 0, 0, 0) := rfl
theorem c_67_106 : mj_code 67 106 = some (.iload 4, 108, 0, 0, 0) := rfl
theorem c_67_108 : mj_code 67 108 = some (.iconst 4, 109, 0, 0, 0) := rfl
theorem c_67_109 : mj_code 67 109 = some (.ishl, 110, 0, 0, 0) := rfl
theorem c_67_110 : mj_code 67 110 = some (.ior, 111, 0, 0, 0) := rfl
theorem c_67_111 : mj_code 67 111 = some (.iload 6, 113, 0, 0, 0) := rfl
theorem c_67_113 : mj_code 67 113 = some (.bipush 8, 115, 0, 0, 0) := rfl
theorem c_67_115 : mj_code 67 115 = some (.ishl, 116, 0, 0, 0) := rfl
theorem c_67_116 : mj_code 67 116 = some (.ior, 117, 0, 0, 0) := rfl
theorem c_67_117 : mj_code 67 117 = some (.iastore, 118, 0, 0, 0) := rfl
theorem c_67_118 : mj_code 67 118 = some (.aload_n 0, 119, 0, 0, 0) := rfl
theorem c_67_119 : mj_code 67 119 = some (.getfield 19, 122, 8, 3, 286) := rfl
theorem c_67_122 : mj_code 67 122 = some (.iload_n 1, 123, 0, 0, 0) := rfl
theorem c_67_123 : mj_code 67 123 = some (.iload 7, 125, 0, 0, 0) := rfl
theorem c_67_125 : mj_code 67 125 = some (.iastore, 126, 0, 0, 0) := rfl
theorem c_67_126 : mj_code 67 126 = some (.iinc 1 1, 129, 0, 0, 0) := rfl
theorem c_67_129 : mj_code 67 129 = some (.iinc 6 1, 132, 0, 0, 0) := rfl
theorem c_67_132 : mj_code 67 132 = some (.goto (-67), 135, 65, 0, 0) := rfl
theorem c_67_135 : mj_code 67 135 = some (.iinc 4 1, 138, 0, 0, 0) := rfl
theorem c_67_138 : mj_code 67 138 = some (.goto (-109), 141, 29, 0, 0) := rfl
theorem c_67_141 : mj_code 67 141 = some (.iinc 3 1, 144, 0, 0, 0) := rfl
theorem c_67_144 : mj_code 67 144 = some (.goto (-123), 147, 21, 0, 0) := rfl
theorem c_67_147 : mj_code 67 147 = some (.iinc 2 1, 150, 0, 0, 0) := rfl
theorem c_67_150 : mj_code 67 150 = some (.goto (-146), 153, 4, 0, 0) := rfl
theorem c_67_153 : mj_code 67 153 = some (.aload_n 0, 154, 0, 0, 0) := rfl
theorem c_67_154 : mj_code 67 154 = some (.getfield 22, 157, 8, 4, 287) := rfl
theorem c_67_157 : mj_code 67 157 = some (.aload_n 0, 158, 0, 0, 0) := rfl
theorem c_67_158 : mj_code 67 158 = some (.getfield 35, 161, 8, 6, 289) := rfl
theorem c_67_161 : mj_code 67 161 = some (.iload_n 1, 162, 0, 0, 0) := rfl
theorem c_67_162 : mj_code 67 162 = some (.iastore, 163, 0, 0, 0) := rfl
theorem c_67_163 : mj_code 67 163 = some (.return_, 164, 0, 0, 0) := rfl
theorem c_68_0 : mj_code 68 0 = some (.aload_n 1, 1, 0, 0, 0) := rfl
theorem c_68_1 : mj_code 68 1 = some (.invokevirtual 89, 4, 31, 0, 845) := rfl
theorem c_68_4 : mj_code 68 4 = some (.aload_n 0, 5, 0, 0, 0) := rfl
theorem c_68_5 : mj_code 68 5 = some (.iconst 0, 6, 0, 0, 0) := rfl
theorem c_68_6 : mj_code 68 6 = some (.iconst 0, 7, 0, 0, 0) := rfl
theorem c_68_7 : mj_code 68 7 = some (.aload_n 1, 8, 0, 0, 0) := rfl
theorem c_68_8 : mj_code 68 8 = some (.invokestatic 94, 11, 70, 1, 852) := rfl
theorem c_68_11 : mj_code 68 11 = some (.return_, 12, 0, 0, 0) := rfl
theorem c_69_0 : mj_code 69 0 = some (.iconst 0, 1, 0, 0, 0) := rfl
theorem c_69_1 : mj_code 69 1 = some (.istore_n 2, 2, 0, 0, 0) := rfl
theorem c_69_2 : mj_code 69 2 = some (.iload_n 2, 3, 0, 0, 0) := rfl
theorem c_69_3 : mj_code 69 3 = some (.aload_n 1, 4, 0, 0, 0) := rfl
theorem c_69_4 : mj_code 69 4 = some (.getfield 98, 7, 2, 1, 316) := rfl
theorem c_69_7 : mj_code 69 7 = some (.if_icmp .ge 26, 10, 33, 0, 0) := rfl
theorem c_69_10 : mj_code 69 10 = some (.aload_n 0, 11, 0, 0, 0) := rfl
theorem c_69_11 : mj_code 69 11 = some (.getfield 9, 14, 8, 0, 282) := rfl
theorem c_69_14 : mj_code 69 14 = some (.iload_n 2, 15, 0, 0, 0) := rfl
theorem c_69_15 : mj_code 69 15 = some (.iload_n 2, 16, 0, 0, 0) := rfl
theorem c_69_16 : mj_code 69 16 = some (.iastore, 17, 0, 0, 0) := rfl
theorem c_69_17 : mj_code 69 17 = some (.aload_n 0, 18, 0, 0, 0) := rfl
theorem c_69_18 : mj_code 69 18 = some (.iload_n 2, 19, 0, 0, 0) := rfl
theorem c_69_19 : mj_code 69 19 = some (.invokevirtual 101, 22, 72, 0, 859) := rfl
theorem c_69_22 : mj_code 69 22 = some (.ifCond .ne 5, 25, 27, 0, 0) := rfl
theorem c_69_25 : mj_code 69 25 = some (.iconst 0, 26, 0, 0, 0) := rfl
theorem c_69_26 : mj_code 69 26 = some (.ireturn, 27, 0, 0, 0) := rfl
theorem c_69_27 : mj_code 69 27 = some (.iinc 2 1, 30, 0, 0, 0) := rfl
theorem c_69_30 : mj_code 69 30 = some (.goto (-28), 33, 2, 0, 0) := rfl
theorem c_69_33 : mj_code 69 33 = some (.aload_n 0, 34, 0, 0, 0) := rfl
theorem c_69_34 : mj_code 69 34 = some (.aload_n 1, 35, 0, 0, 0) := rfl
theorem c_69_35 : mj_code 69 35 = some (.getfield 98, 38, 2, 1, 316) := rfl
theorem c_69_38 : mj_code 69 38 = some (.aload_n 1, 39, 0, 0, 0) := rfl
theorem c_69_39 : mj_code 69 39 = some (.invokestatic 105, 42, 71, 1, 1022) := rfl
theorem c_69_42 : mj_code 69 42 = some (.ireturn, 43, 0, 0, 0) := rfl
theorem c_70_0 : mj_code 70 0 = some (.iload_n 1, 1, 0, 0, 0) := rfl
theorem c_70_1 : mj_code 70 1 = some (.aload_n 0, 2, 0, 0, 0) := rfl
theorem c_70_2 : mj_code 70 2 = some (.getfield 35, 5, 8, 6, 289) := rfl
theorem c_70_5 : mj_code 70 5 = some (.if_icmp .lt 9, 8, 14, 0, 0) := rfl
theorem c_70_8 : mj_code 70 8 = some (.aload_n 3, 9, 0, 0, 0) := rfl
theorem c_70_9 : mj_code 70 9 = some (.iload_n 2, 10, 0, 0, 0) := rfl
theorem c_70_10 : mj_code 70 10 = some (.invokevirtual 109, 13, 32, 0, 855) := rfl
theorem c_70_13 : mj_code 70 13 = some (.return_, 14, 0, 0, 0) := rfl
theorem c_70_14 : mj_code 70 14 = some (.iconst 0, 15, 0, 0, 0) := rfl
theorem c_70_15 : mj_code 70 15 = some (.istore 4, 17, 0, 0, 0) := rfl
theorem c_70_17 : mj_code 70 17 = some (.iload 4, 19, 0, 0, 0) := rfl
theorem c_70_19 : mj_code 70 19 = some (.aload_n 0, 20, 0, 0, 0) := rfl
theorem c_70_20 : mj_code 70 20 = some (.getfield 25, 23, 8, 5, 288) := rfl
theorem c_70_23 : mj_code 70 23 = some (.if_icmp .ge 42, 26, 65, 0, 0) := rfl
theorem c_70_26 : mj_code 70 26 = some (.aload_n 0, 27, 0, 0, 0) := rfl
theorem c_70_27 : mj_code 70 27 = some (.getfield 9, 30, 8, 0, 282) := rfl
theorem c_70_30 : mj_code 70 30 = some (.iload_n 1, 31, 0, 0, 0) := rfl
theorem c_70_31 : mj_code 70 31 = some (.iload 4, 33, 0, 0, 0) := rfl
theorem c_70_33 : mj_code 70 33 = some (.iastore, 34, 0, 0, 0) := rfl
theorem c_70_34 : mj_code 70 34 = some (.aload_n 0, 35, 0, 0, 0) := rfl
theorem c_70_35 : mj_code 70 35 = some (.iload_n 1, 36, 0, 0, 0) := rfl
theorem c_70_36 : mj_code 70 36 = some (.invokevirtual 101, 39, 72, 0, 859) := rfl
theorem c_70_39 : mj_code 70 39 = some (.ifCond .eq 20, 42, 59, 0, 0) := rfl
theorem c_70_42 : mj_code 70 42 = some (.aload_n 0, 43, 0, 0, 0) := rfl
theorem c_70_43 : mj_code 70 43 = some (.iload_n 1, 44, 0, 0, 0) := rfl
theorem c_70_44 : mj_code 70 44 = some (.iconst 1, 45, 0, 0, 0) := rfl
theorem c_70_45 : mj_code 70 45 = some (.iadd, 46, 0, 0, 0) := rfl
theorem c_70_46 : mj_code 70 46 = some (.iload_n 2, 47, 0, 0, 0) := rfl
theorem c_70_47 : mj_code 70 47 = some (.aload_n 0, 48, 0, 0, 0) := rfl
theorem c_70_48 : mj_code 70 48 = some (.getfield 25, 51, 8, 5, 288) := rfl
theorem c_70_51 : mj_code 70 51 = some (.imul, 52, 0, 0, 0) := rfl
theorem c_70_52 : mj_code 70 52 = some (.iload 4, 54, 0, 0, 0) := rfl
theorem c_70_54 : mj_code 70 54 = some (.iadd, 55, 0, 0, 0) := rfl
theorem c_70_55 : mj_code 70 55 = some (.aload_n 3, 56, 0, 0, 0) := rfl
theorem c_70_56 : mj_code 70 56 = some (.invokestatic 94, 59, 70, 1, 852) := rfl
theorem c_70_59 : mj_code 70 59 = some (.iinc 4 1, 62, 0, 0, 0) := rfl
theorem c_70_62 : mj_code 70 62 = some (.goto (-45), 65, 17, 0, 0) := rfl
theorem c_70_65 : mj_code 70 65 = some (.return_, 66, 0, 0, 0) := rfl
theorem c_71_0 : mj_code 71 0 = some (.iload_n 1, 1, 0, 0, 0) := rfl
theorem c_71_1 : mj_code 71 1 = some (.aload_n 0, 2, 0, 0, 0) := rfl
theorem c_71_2 : mj_code 71 2 = some (.getfield 35, 5, 8, 6, 289) := rfl
theorem c_71_5 : mj_code 71 5 = some (.if_icmp .lt 16, 8, 21, 0, 0) := rfl
theorem c_71_8 : mj_code 71 8 = some (.aload_n 2, 9, 0, 0, 0) := rfl
theorem c_71_9 : mj_code 71 9 = some (.aload_n 0, 10, 0, 0, 0) := rfl
theorem c_71_10 : mj_code 71 10 = some (.getfield 9, 13, 8, 0, 282) := rfl
theorem c_71_13 : mj_code 71 13 = some (.aload_n 0, 14, 0, 0, 0) := rfl
theorem c_71_14 : mj_code 71 14 = some (.getfield 25, 17, 8, 5, 288) := rfl
theorem c_71_17 : mj_code 71 17 = some (.invokevirtual 113, 20, 25, 0, 1025) := rfl
theorem c_71_20 : mj_code 71 20 = some (.ireturn, 21, 0, 0, 0) := rfl
theorem c_71_21 : mj_code 71 21 = some (.iconst 0, 22, 0, 0, 0) := rfl
theorem c_71_22 : mj_code 71 22 = some (.istore_n 3, 23, 0, 0, 0) := rfl
theorem c_71_23 : mj_code 71 23 = some (.iload_n 3, 24, 0, 0, 0) := rfl
theorem c_71_24 : mj_code 71 24 = some (.aload_n 0, 25, 0, 0, 0) := rfl
theorem c_71_25 : mj_code 71 25 = some (.getfield 25, 28, 8, 5, 288) := rfl
theorem c_71_28 : mj_code 71 28 = some (.if_icmp .ge 37, 31, 65, 0, 0) := rfl
theorem c_71_31 : mj_code 71 31 = some (.aload_n 0, 32, 0, 0, 0) := rfl
theorem c_71_32 : mj_code 71 32 = some (.getfield 9, 35, 8, 0, 282) := rfl
theorem c_71_35 : mj_code 71 35 = some (.iload_n 1, 36, 0, 0, 0) := rfl
theorem c_71_36 : mj_code 71 36 = some (.iload_n 3, 37, 0, 0, 0) := rfl
theorem c_71_37 : mj_code 71 37 = some (.iastore, 38, 0, 0, 0) := rfl
theorem c_71_38 : mj_code 71 38 = some (.aload_n 0, 39, 0, 0, 0) := rfl
theorem c_71_39 : mj_code 71 39 = some (.iload_n 1, 40, 0, 0, 0) := rfl
theorem c_71_40 : mj_code 71 40 = some (.invokevirtual 101, 43, 72, 0, 859) := rfl
theorem c_71_43 : mj_code 71 43 = some (.ifCond .eq 16, 46, 59, 0, 0) := rfl
theorem c_71_46 : mj_code 71 46 = some (.aload_n 0, 47, 0, 0, 0) := rfl
theorem c_71_47 : mj_code 71 47 = some (.iload_n 1, 48, 0, 0, 0) := rfl
theorem c_71_48 : mj_code 71 48 = some (.iconst 1, 49, 0, 0, 0) := rfl
theorem c_71_49 : mj_code 71 49 = some (.iadd, 50, 0, 0, 0) := rfl
theorem c_71_50 : mj_code 71 50 = some (.aload_n 2, 51, 0, 0, 0) := rfl
theorem c_71_51 : mj_code 71 51 = some (.invokestatic 105, 54, 71, 1, 1022) := rfl
theorem c_71_54 : mj_code 71 54 = some (.ifCond .eq 5, 57, 59, 0, 0) := rfl
theorem c_71_57 : mj_code 71 57 = some (.iconst 1, 58, 0, 0, 0) := rfl
theorem c_71_58 : mj_code 71 58 = some (.ireturn, 59, 0, 0, 0) := rfl
theorem c_71_59 : mj_code 71 59 = some (.iinc 3 1, 62, 0, 0, 0) := rfl
theorem c_71_62 : mj_code 71 62 = some (.goto (-39), 65, 23, 0, 0) := rfl
theorem c_71_65 : mj_code 71 65 = some (.iconst 0, 66, 0, 0, 0) := rfl
theorem c_71_66 : mj_code 71 66 = some (.ireturn, 67, 0, 0, 0) := rfl
theorem c_72_0 : mj_code 72 0 = some (.aload_n 0, 1, 0, 0, 0) := rfl
theorem c_72_1 : mj_code 72 1 = some (.getfield 22, 4, 8, 4, 287) := rfl
theorem c_72_4 : mj_code 72 4 = some (.iload_n 1, 5, 0, 0, 0) := rfl
theorem c_72_5 : mj_code 72 5 = some (.iaload, 6, 0, 0, 0) := rfl
theorem c_72_6 : mj_code 72 6 = some (.istore_n 2, 7, 0, 0, 0) := rfl
theorem c_72_7 : mj_code 72 7 = some (.iload_n 2, 8, 0, 0, 0) := rfl
theorem c_72_8 : mj_code 72 8 = some (.aload_n 0, 9, 0, 0, 0) := rfl
theorem c_72_9 : mj_code 72 9 = some (.getfield 22, 12, 8, 4, 287) := rfl
theorem c_72_12 : mj_code 72 12 = some (.iload_n 1, 13, 0, 0, 0) := rfl
theorem c_72_13 : mj_code 72 13 = some (.iconst 1, 14, 0, 0, 0) := rfl
theorem c_72_14 : mj_code 72 14 = some (.iadd, 15, 0, 0, 0) := rfl
theorem c_72_15 : mj_code 72 15 = some (.iaload, 16, 0, 0, 0) := rfl
theorem c_72_16 : mj_code 72 16 = some (.if_icmp .ge 79, 19, 95, 0, 0) := rfl
theorem c_72_19 : mj_code 72 19 = some (.aload_n 0, 20, 0, 0, 0) := rfl
theorem c_72_20 : mj_code 72 20 = some (.getfield 16, 23, 8, 2, 285) := rfl
theorem c_72_23 : mj_code 72 23 = some (.iload_n 2, 24, 0, 0, 0) := rfl
theorem c_72_24 : mj_code 72 24 = some (.iaload, 25, 0, 0, 0) := rfl
theorem c_72_25 : mj_code 72 25 = some (.istore_n 3, 26, 0, 0, 0) := rfl
theorem c_72_26 : mj_code 72 26 = some (.aload_n 0, 27, 0, 0, 0) := rfl
theorem c_72_27 : mj_code 72 27 = some (.getfield 9, 30, 8, 0, 282) := rfl
theorem c_72_30 : mj_code 72 30 = some (.iload_n 3, 31, 0, 0, 0) := rfl
theorem c_72_31 : mj_code 72 31 = some (.bipush 15, 33, 0, 0, 0) := rfl
theorem c_72_33 : mj_code 72 33 = some (.iand, 34, 0, 0, 0) := rfl
theorem c_72_34 : mj_code 72 34 = some (.iaload, 35, 0, 0, 0) := rfl
theorem c_72_35 : mj_code 72 35 = some (.aload_n 0, 36, 0, 0, 0) := rfl
theorem c_72_36 : mj_code 72 36 = some (.getfield 25, 39, 8, 5, 288) := rfl
theorem c_72_39 : mj_code 72 39 = some (.imul, 40, 0, 0, 0) := rfl
theorem c_72_40 : mj_code 72 40 = some (.aload_n 0, 41, 0, 0, 0) := rfl
theorem c_72_41 : mj_code 72 41 = some (.getfield 9, 44, 8, 0, 282) := rfl
theorem c_72_44 : mj_code 72 44 = some (.iload_n 3, 45, 0, 0, 0) := rfl
theorem c_72_45 : mj_code 72 45 = some (.iconst 4, 46, 0, 0, 0) := rfl
theorem c_72_46 : mj_code 72 46 = some (.ishr, 47, 0, 0, 0) := rfl
theorem c_72_47 : mj_code 72 47 = some (.bipush 15, 49, 0, 0, 0) := rfl
theorem c_72_49 : mj_code 72 49 = some (.iand, 50, 0, 0, 0) := rfl
theorem c_72_50 : mj_code 72 50 = some (.iaload, 51, 0, 0, 0) := rfl
theorem c_72_51 : mj_code 72 51 = some (.iadd, 52, 0, 0, 0) := rfl
theorem c_72_52 : mj_code 72 52 = some (.istore 4, 54, 0, 0, 0) := rfl
theorem c_72_54 : mj_code 72 54 = some (.iload 4, 56, 0, 0, 0) := rfl
theorem c_72_56 : mj_code 72 56 = some (.aload_n 0, 57, 0, 0, 0) := rfl
theorem c_72_57 : mj_code 72 57 = some (.getfield 25, 60, 8, 5, 288) := rfl
theorem c_72_60 : mj_code 72 60 = some (.imul, 61, 0, 0, 0) := rfl
theorem c_72_61 : mj_code 72 61 = some (.aload_n 0, 62, 0, 0, 0) := rfl
theorem c_72_62 : mj_code 72 62 = some (.getfield 9, 65, 8, 0, 282) := rfl
theorem c_72_65 : mj_code 72 65 = some (.iload_n 3, 66, 0, 0, 0) := rfl
theorem c_72_66 : mj_code 72 66 = some (.bipush 8, 68, 0, 0, 0) := rfl
theorem c_72_68 : mj_code 72 68 = some (.ishr, 69, 0, 0, 0) := rfl
theorem c_72_69 : mj_code 72 69 = some (.iaload, 70, 0, 0, 0) := rfl
theorem c_72_70 : mj_code 72 70 = some (.iadd, 71, 0, 0, 0) := rfl
theorem c_72_71 : mj_code 72 71 = some (.istore 4, 73, 0, 0, 0) := rfl
theorem c_72_73 : mj_code 72 73 = some (.aload_n 0, 74, 0, 0, 0) := rfl
theorem c_72_74 : mj_code 72 74 = some (.getfield 19, 77, 8, 3, 286) := rfl
theorem c_72_77 : mj_code 72 77 = some (.iload_n 2, 78, 0, 0, 0) := rfl
theorem c_72_78 : mj_code 72 78 = some (.iaload, 79, 0, 0, 0) := rfl
theorem c_72_79 : mj_code 72 79 = some (.iload 4, 81, 0, 0, 0) := rfl
theorem c_72_81 : mj_code 72 81 = some (.ishr, 82, 0, 0, 0) := rfl
theorem c_72_82 : mj_code 72 82 = some (.iconst 1, 83, 0, 0, 0) := rfl
theorem c_72_83 : mj_code 72 83 = some (.iand, 84, 0, 0, 0) := rfl
theorem c_72_84 : mj_code 72 84 = some (.ifCond .ne 5, 87, 89, 0, 0) := rfl
theorem c_72_87 : mj_code 72 87 = some (.iconst 0, 88, 0, 0, 0) := rfl
theorem c_72_88 : mj_code 72 88 = some (.ireturn, 89, 0, 0, 0) := rfl
theorem c_72_89 : mj_code 72 89 = some (.iinc 2 1, 92, 0, 0, 0) := rfl
theorem c_72_92 : mj_code 72 92 = some (.goto (-85), 95, 7, 0, 0) := rfl
theorem c_72_95 : mj_code 72 95 = some (.iconst 1, 96, 0, 0, 0) := rfl
theorem c_72_96 : mj_code 72 96 = some (.ireturn, 97, 0, 0, 0) := rfl
theorem c_74_0 : mj_code 74 0 = some (.aload_n 0, 1, 0, 0, 0) := rfl
theorem c_74_1 : mj_code 74 1 = some (.iload_n 1, 2, 0, 0, 0) := rfl
theorem c_74_2 : mj_code 74 2 = some (.putfield 9, 5, 9, 0, 247) := rfl
theorem c_74_5 : mj_code 74 5 = some (.aload_n 0, 6, 0, 0, 0) := rfl
theorem c_74_6 : mj_code 74 6 = some (.iconst 0, 7, 0, 0, 0) := rfl
theorem c_74_7 : mj_code 74 7 = some (.putfield 29, 10, 9, 1, 249) := rfl
theorem c_74_10 : mj_code 74 10 = some (.return_, 11, 0, 0, 0) := rfl
theorem c_75_0 : mj_code 75 0 = some (.iload_n 1, 1, 0, 0, 0) := rfl
theorem c_75_1 : mj_code 75 1 = some (.ifCond .lt 15, 4, 16, 0, 0) := rfl
theorem c_75_4 : mj_code 75 4 = some (.iload_n 1, 5, 0, 0, 0) := rfl
theorem c_75_5 : mj_code 75 5 = some (.aload_n 0, 6, 0, 0, 0) := rfl
theorem c_75_6 : mj_code 75 6 = some (.getfield 9, 9, 9, 0, 247) := rfl
theorem c_75_9 : mj_code 75 9 = some (.if_icmp .ge 7, 12, 16, 0, 0) := rfl
theorem c_75_12 : mj_code 75 12 = some (.iconst 1, 13, 0, 0, 0) := rfl
theorem c_75_13 : mj_code 75 13 = some (.goto 4, 16, 17, 0, 0) := rfl
theorem c_75_16 : mj_code 75 16 = some (.iconst 0, 17, 0, 0, 0) := rfl
theorem c_75_17 : mj_code 75 17 = some (.ireturn, 18, 0, 0, 0) := rfl
theorem c_76_0 : mj_code 76 0 = some (.aload_n 0, 1, 0, 0, 0) := rfl
theorem c_76_1 : mj_code 76 1 = some (.getfield 13, 4, 9, 2, 251) := rfl
theorem c_76_4 : mj_code 76 4 = some (.aload_n 0, 5, 0, 0, 0) := rfl
theorem c_76_5 : mj_code 76 5 = some (.getfield 29, 8, 9, 1, 249) := rfl
theorem c_76_8 : mj_code 76 8 = some (.iload_n 1, 9, 0, 0, 0) := rfl
theorem c_76_9 : mj_code 76 9 = some (.iastore, 10, 0, 0, 0) := rfl
theorem c_76_10 : mj_code 76 10 = some (.aload_n 0, 11, 0, 0, 0) := rfl
theorem c_76_11 : mj_code 76 11 = some (.getfield 17, 14, 9, 3, 253) := rfl
theorem c_76_14 : mj_code 76 14 = some (.aload_n 0, 15, 0, 0, 0) := rfl
theorem c_76_15 : mj_code 76 15 = some (.getfield 29, 18, 9, 1, 249) := rfl
theorem c_76_18 : mj_code 76 18 = some (.iload_n 2, 19, 0, 0, 0) := rfl
theorem c_76_19 : mj_code 76 19 = some (.iastore, 20, 0, 0, 0) := rfl
theorem c_76_20 : mj_code 76 20 = some (.aload_n 0, 21, 0, 0, 0) := rfl
theorem c_76_21 : mj_code 76 21 = some (.getfield 20, 24, 9, 4, 255) := rfl
theorem c_76_24 : mj_code 76 24 = some (.aload_n 0, 25, 0, 0, 0) := rfl
theorem c_76_25 : mj_code 76 25 = some (.getfield 29, 28, 9, 1, 249) := rfl
theorem c_76_28 : mj_code 76 28 = some (.iload_n 3, 29, 0, 0, 0) := rfl
theorem c_76_29 : mj_code 76 29 = some (.iastore, 30, 0, 0, 0) := rfl
theorem c_76_30 : mj_code 76 30 = some (.aload_n 0, 31, 0, 0, 0) := rfl
theorem c_76_31 : mj_code 76 31 = some (.getfield 23, 34, 9, 5, 257) := rfl
theorem c_76_34 : mj_code 76 34 = some (.aload_n 0, 35, 0, 0, 0) := rfl
theorem c_76_35 : mj_code 76 35 = some (.getfield 29, 38, 9, 1, 249) := rfl
theorem c_76_38 : mj_code 76 38 = some (.iload 4, 40, 0, 0, 0) := rfl
theorem c_76_40 : mj_code 76 40 = some (.iastore, 41, 0, 0, 0) := rfl
theorem c_76_41 : mj_code 76 41 = some (.aload_n 0, 42, 0, 0, 0) := rfl
theorem c_76_42 : mj_code 76 42 = some (.dup, 43, 0, 0, 0) := rfl
theorem c_76_43 : mj_code 76 43 = some (.getfield 29, 46, 9, 1, 249) := rfl
theorem c_76_46 : mj_code 76 46 = some (.dup_x1, 47, 0, 0, 0) := rfl
theorem c_76_47 : mj_code 76 47 = some (.iconst 1, 48, 0, 0, 0) := rfl
theorem c_76_48 : mj_code 76 48 = some (.iadd, 49, 0, 0, 0) := rfl
theorem c_76_49 : mj_code 76 49 = some (.putfield 29, 52, 9, 1, 249) := rfl
theorem c_76_52 : mj_code 76 52 = some (.ireturn, 53, 0, 0, 0) := rfl
theorem c_77_0 : mj_code 77 0 = some (.iconst 0, 1, 0, 0, 0) := rfl
theorem c_77_1 : mj_code 77 1 = some (.istore_n 1, 2, 0, 0, 0) := rfl
theorem c_77_2 : mj_code 77 2 = some (.iconst 0, 3, 0, 0, 0) := rfl
theorem c_77_3 : mj_code 77 3 = some (.istore_n 2, 4, 0, 0, 0) := rfl
theorem c_77_4 : mj_code 77 4 = some (.iload_n 2, 5, 0, 0, 0) := rfl
theorem c_77_5 : mj_code 77 5 = some (.aload_n 0, 6, 0, 0, 0) := rfl
theorem c_77_6 : mj_code 77 6 = some (.getfield 29, 9, 9, 1, 249) := rfl
theorem c_77_9 : mj_code 77 9 = some (.if_icmp .ge 20, 12, 29, 0, 0) := rfl
theorem c_77_12 : mj_code 77 12 = some (.iload_n 1, 13, 0, 0, 0) := rfl
theorem c_77_13 : mj_code 77 13 = some (.iconst 1, 14, 0, 0, 0) := rfl
theorem c_77_14 : mj_code 77 14 = some (.aload_n 0, 15, 0, 0, 0) := rfl
theorem c_77_15 : mj_code 77 15 = some (.getfield 13, 18, 9, 2, 251) := rfl
theorem c_77_18 : mj_code 77 18 = some (.iload_n 2, 19, 0, 0, 0) := rfl
theorem c_77_19 : mj_code 77 19 = some (.iaload, 20, 0, 0, 0) := rfl
theorem c_77_20 : mj_code 77 20 = some (.ishl, 21, 0, 0, 0) := rfl
theorem c_77_21 : mj_code 77 21 = some (.ior, 22, 0, 0, 0) := rfl
theorem c_77_22 : mj_code 77 22 = some (.istore_n 1, 23, 0, 0, 0) := rfl
theorem c_77_23 : mj_code 77 23 = some (.iinc 2 1, 26, 0, 0, 0) := rfl
theorem c_77_26 : mj_code 77 26 = some (.goto (-22), 29, 4, 0, 0) := rfl
theorem c_77_29 : mj_code 77 29 = some (.iload_n 1, 30, 0, 0, 0) := rfl
theorem c_77_30 : mj_code 77 30 = some (.ireturn, 31, 0, 0, 0) := rfl
theorem c_78_0 : mj_code 78 0 = some (.aload_n 0, 1, 0, 0, 0) := rfl
theorem c_78_1 : mj_code 78 1 = some (.getfield 26, 4, 9, 6, 259) := rfl
theorem c_78_4 : mj_code 78 4 = some (.aload_n 2, 5, 0, 0, 0) := rfl
theorem c_78_5 : mj_code 78 5 = some (.invokevirtual 32, 8, 15, 0, 964) := rfl
theorem c_78_8 : mj_code 78 8 = some (.invokestatic 38, 11, 208, 1, 965) := rfl
theorem c_78_11 : mj_code 78 11 = some (.iconst 1, 12, 0, 0, 0) := rfl
theorem c_78_12 : mj_code 78 12 = some (.istore_n 3, 13, 0, 0, 0) := rfl
theorem c_78_13 : mj_code 78 13 = some (.iconst 0, 14, 0, 0, 0) := rfl
theorem c_78_14 : mj_code 78 14 = some (.istore 4, 16, 0, 0, 0) := rfl
theorem c_78_16 : mj_code 78 16 = some (.iload 4, 18, 0, 0, 0) := rfl
theorem c_78_18 : mj_code 78 18 = some (.bipush 25, 20, 0, 0, 0) := rfl
theorem c_78_20 : mj_code 78 20 = some (.if_icmp .ge 52, 23, 72, 0, 0) := rfl
theorem c_78_23 : mj_code 78 23 = some (.iload_n 3, 24, 0, 0, 0) := rfl
theorem c_78_24 : mj_code 78 24 = some (.ifCond .eq 48, 27, 72, 0, 0) := rfl
theorem c_78_27 : mj_code 78 27 = some (.iconst 0, 28, 0, 0, 0) := rfl
theorem c_78_28 : mj_code 78 28 = some (.istore_n 3, 29, 0, 0, 0) := rfl
theorem c_78_29 : mj_code 78 29 = some (.iconst 0, 30, 0, 0, 0) := rfl
theorem c_78_30 : mj_code 78 30 = some (.istore 5, 32, 0, 0, 0) := rfl
theorem c_78_32 : mj_code 78 32 = some (.iload 5, 34, 0, 0, 0) := rfl
theorem c_78_34 : mj_code 78 34 = some (.aload_n 0, 35, 0, 0, 0) := rfl
theorem c_78_35 : mj_code 78 35 = some (.getfield 29, 38, 9, 1, 249) := rfl
theorem c_78_38 : mj_code 78 38 = some (.if_icmp .ge 28, 41, 66, 0, 0) := rfl
theorem c_78_41 : mj_code 78 41 = some (.iload_n 3, 42, 0, 0, 0) := rfl
theorem c_78_42 : mj_code 78 42 = some (.aload_n 0, 43, 0, 0, 0) := rfl
theorem c_78_43 : mj_code 78 43 = some (.iload 5, 45, 0, 0, 0) := rfl
theorem c_78_45 : mj_code 78 45 = some (.aload_n 1, 46, 0, 0, 0) := rfl
theorem c_78_46 : mj_code 78 46 = some (.aload_n 0, 47, 0, 0, 0) := rfl
theorem c_78_47 : mj_code 78 47 = some (.getfield 13, 50, 9, 2, 251) := rfl
theorem c_78_50 : mj_code 78 50 = some (.iload 5, 52, 0, 0, 0) := rfl
theorem c_78_52 : mj_code 78 52 = some (.iaload, 53, 0, 0, 0) := rfl
theorem c_78_53 : mj_code 78 53 = some (.aaload, 54, 0, 0, 0) := rfl
theorem c_78_54 : mj_code 78 54 = some (.aload_n 2, 55, 0, 0, 0) := rfl
theorem c_78_55 : mj_code 78 55 = some (.invokevirtual 44, 58, 79, 0, 966) := rfl
theorem c_78_58 : mj_code 78 58 = some (.ior, 59, 0, 0, 0) := rfl
theorem c_78_59 : mj_code 78 59 = some (.istore_n 3, 60, 0, 0, 0) := rfl
theorem c_78_60 : mj_code 78 60 = some (.iinc 5 1, 63, 0, 0, 0) := rfl
theorem c_78_63 : mj_code 78 63 = some (.goto (-31), 66, 32, 0, 0) := rfl
theorem c_78_66 : mj_code 78 66 = some (.iinc 4 1, 69, 0, 0, 0) := rfl
theorem c_78_69 : mj_code 78 69 = some (.goto (-53), 72, 16, 0, 0) := rfl
theorem c_78_72 : mj_code 78 72 = some (.return_, 73, 0, 0, 0) := rfl
theorem c_79_0 : mj_code 79 0 = some (.iconst 0, 1, 0, 0, 0) := rfl
theorem c_79_1 : mj_code 79 1 = some (.istore 4, 3, 0, 0, 0) := rfl
theorem c_79_3 : mj_code 79 3 = some (.iconst 0, 4, 0, 0, 0) := rfl
theorem c_79_4 : mj_code 79 4 = some (.istore 5, 6, 0, 0, 0) := rfl
theorem c_79_6 : mj_code 79 6 = some (.iconst 0, 7, 0, 0, 0) := rfl
theorem c_79_7 : mj_code 79 7 = some (.istore 6, 9, 0, 0, 0) := rfl
theorem c_79_9 : mj_code 79 9 = some (.iconst 0, 10, 0, 0, 0) := rfl
theorem c_79_10 : mj_code 79 10 = some (.istore 7, 12, 0, 0, 0) := rfl
theorem c_79_12 : mj_code 79 12 = some (.iload 7, 14, 0, 0, 0) := rfl
theorem c_79_14 : mj_code 79 14 = some (.aload_n 2, 15, 0, 0, 0) := rfl
theorem c_79_15 : mj_code 79 15 = some (.getfield 48, 18, 4, 3, 367) := rfl
theorem c_79_18 : mj_code 79 18 = some (.if_icmp .ge 92, 21, 110, 0, 0) := rfl
theorem c_79_21 : mj_code 79 21 = some (.aload_n 3, 22, 0, 0, 0) := rfl
theorem c_79_22 : mj_code 79 22 = some (.getfield 51, 25, 1, 2, 122) := rfl
theorem c_79_25 : mj_code 79 25 = some (.aload_n 2, 26, 0, 0, 0) := rfl
theorem c_79_26 : mj_code 79 26 = some (.getfield 52, 29, 4, 4, 370) := rfl
theorem c_79_29 : mj_code 79 29 = some (.iload 7, 31, 0, 0, 0) := rfl
theorem c_79_31 : mj_code 79 31 = some (.iaload, 32, 0, 0, 0) := rfl
theorem c_79_32 : mj_code 79 32 = some (.iaload, 33, 0, 0, 0) := rfl
theorem c_79_33 : mj_code 79 33 = some (.istore 8, 35, 0, 0, 0) := rfl
theorem c_79_35 : mj_code 79 35 = some (.aload_n 3, 36, 0, 0, 0) := rfl
theorem c_79_36 : mj_code 79 36 = some (.getfield 55, 39, 1, 3, 129) := rfl
theorem c_79_39 : mj_code 79 39 = some (.aload_n 2, 40, 0, 0, 0) := rfl
theorem c_79_40 : mj_code 79 40 = some (.getfield 52, 43, 4, 4, 370) := rfl
theorem c_79_43 : mj_code 79 43 = some (.iload 7, 45, 0, 0, 0) := rfl
theorem c_79_45 : mj_code 79 45 = some (.iaload, 46, 0, 0, 0) := rfl
theorem c_79_46 : mj_code 79 46 = some (.iaload, 47, 0, 0, 0) := rfl
theorem c_79_47 : mj_code 79 47 = some (.istore 9, 49, 0, 0, 0) := rfl
theorem c_79_49 : mj_code 79 49 = some (.aload_n 3, 50, 0, 0, 0) := rfl
theorem c_79_50 : mj_code 79 50 = some (.getfield 56, 53, 1, 4, 136) := rfl
theorem c_79_53 : mj_code 79 53 = some (.aload_n 2, 54, 0, 0, 0) := rfl
theorem c_79_54 : mj_code 79 54 = some (.getfield 52, 57, 4, 4, 370) := rfl
theorem c_79_57 : mj_code 79 57 = some (.iload 7, 59, 0, 0, 0) := rfl
theorem c_79_59 : mj_code 79 59 = some (.iaload, 60, 0, 0, 0) := rfl
theorem c_79_60 : mj_code 79 60 = some (.iaload, 61, 0, 0, 0) := rfl
theorem c_79_61 : mj_code 79 61 = some (.istore 10, 63, 0, 0, 0) := rfl
theorem c_79_63 : mj_code 79 63 = some (.aload_n 0, 64, 0, 0, 0) := rfl
theorem c_79_64 : mj_code 79 64 = some (.iload_n 1, 65, 0, 0, 0) := rfl
theorem c_79_65 : mj_code 79 65 = some (.iload 8, 67, 0, 0, 0) := rfl
theorem c_79_67 : mj_code 79 67 = some (.iload 9, 69, 0, 0, 0) := rfl
theorem c_79_69 : mj_code 79 69 = some (.iload 10, 71, 0, 0, 0) := rfl
theorem c_79_71 : mj_code 79 71 = some (.invokevirtual 57, 74, 80, 0, 970) := rfl
theorem c_79_74 : mj_code 79 74 = some (.ifCond .eq 30, 77, 104, 0, 0) := rfl
theorem c_79_77 : mj_code 79 77 = some (.iload 4, 79, 0, 0, 0) := rfl
theorem c_79_79 : mj_code 79 79 = some (.iconst 1, 80, 0, 0, 0) := rfl
theorem c_79_80 : mj_code 79 80 = some (.iload 8, 82, 0, 0, 0) := rfl
theorem c_79_82 : mj_code 79 82 = some (.ishl, 83, 0, 0, 0) := rfl
theorem c_79_83 : mj_code 79 83 = some (.ior, 84, 0, 0, 0) := rfl
theorem c_79_84 : mj_code 79 84 = some (.istore 4, 86, 0, 0, 0) := rfl
theorem c_79_86 : mj_code 79 86 = some (.iload 5, 88, 0, 0, 0) := rfl
theorem c_79_88 : mj_code 79 88 = some (.iconst 1, 89, 0, 0, 0) := rfl
theorem c_79_89 : mj_code 79 89 = some (.iload 9, 91, 0, 0, 0) := rfl
theorem c_79_91 : mj_code 79 91 = some (.ishl, 92, 0, 0, 0) := rfl
theorem c_79_92 : mj_code 79 92 = some (.ior, 93, 0, 0, 0) := rfl
theorem c_79_93 : mj_code 79 93 = some (.istore 5, 95, 0, 0, 0) := rfl
theorem c_79_95 : mj_code 79 95 = some (.iload 6, 97, 0, 0, 0) := rfl
theorem c_79_97 : mj_code 79 97 = some (.iconst 1, 98, 0, 0, 0) := rfl
theorem c_79_98 : mj_code 79 98 = some (.iload 10, 100, 0, 0, 0) := rfl
theorem c_79_100 : mj_code 79 100 = some (.ishl, 101, 0, 0, 0) := rfl
theorem c_79_101 : mj_code 79 101 = some (.ior, 102, 0, 0, 0) := rfl
theorem c_79_102 : mj_code 79 102 = some (.istore 6, 104, 0, 0, 0) := rfl
theorem c_79_104 : mj_code 79 104 = some (.iinc 7 1, 107, 0, 0, 0) := rfl
theorem c_79_107 : mj_code 79 107 = some (.goto (-95), 110, 12, 0, 0) := rfl
theorem c_79_110 : mj_code 79 110 = some (.aload_n 0, 111, 0, 0, 0) := rfl
theorem c_79_111 : mj_code 79 111 = some (.aload_n 0, 112, 0, 0, 0) := rfl
theorem c_79_112 : mj_code 79 112 = some (.getfield 17, 115, 9, 3, 253) := rfl
theorem c_79_115 : mj_code 79 115 = some (.iload_n 1, 116, 0, 0, 0) := rfl
theorem c_79_116 : mj_code 79 116 = some (.iaload, 117, 0, 0, 0) := rfl
theorem c_79_117 : mj_code 79 117 = some (.iload 4, 119, 0, 0, 0) := rfl
theorem c_79_119 : mj_code 79 119 = some (.invokevirtual 61, 122, 82, 0, 978) := rfl
theorem c_79_122 : mj_code 79 122 = some (.istore 7, 124, 0, 0, 0) := rfl
theorem c_79_124 : mj_code 79 124 = some (.iload 7, 126, 0, 0, 0) := rfl
theorem c_79_126 : mj_code 79 126 = some (.aload_n 0, 127, 0, 0, 0) := rfl
theorem c_79_127 : mj_code 79 127 = some (.aload_n 0, 128, 0, 0, 0) := rfl
theorem c_79_128 : mj_code 79 128 = some (.getfield 20, 131, 9, 4, 255) := rfl
theorem c_79_131 : mj_code 79 131 = some (.iload_n 1, 132, 0, 0, 0) := rfl
theorem c_79_132 : mj_code 79 132 = some (.iaload, 133, 0, 0, 0) := rfl
theorem c_79_133 : mj_code 79 133 = some (.iload 5, 135, 0, 0, 0) := rfl
theorem c_79_135 : mj_code 79 135 = some (.invokevirtual 61, 138, 82, 0, 978) := rfl
theorem c_79_138 : mj_code 79 138 = some (.ior, 139, 0, 0, 0) := rfl
theorem c_79_139 : mj_code 79 139 = some (.istore 7, 141, 0, 0, 0) := rfl
theorem c_79_141 : mj_code 79 141 = some (.iload 7, 143, 0, 0, 0) := rfl
theorem c_79_143 : mj_code 79 143 = some (.aload_n 0, 144, 0, 0, 0) := rfl
theorem c_79_144 : mj_code 79 144 = some (.aload_n 0, 145, 0, 0, 0) := rfl
theorem c_79_145 : mj_code 79 145 = some (.getfield 23, 148, 9, 5, 257) := rfl
theorem c_79_148 : mj_code 79 148 = some (.iload_n 1, 149, 0, 0, 0) := rfl
theorem c_79_149 : mj_code 79 149 = some (.iaload, 150, 0, 0, 0) := rfl
theorem c_79_150 : mj_code 79 150 = some (.iload 6, 152, 0, 0, 0) := rfl
theorem c_79_152 : mj_code 79 152 = some (.invokevirtual 61, 155, 82, 0, 978) := rfl
theorem c_79_155 : mj_code 79 155 = some (.ior, 156, 0, 0, 0) := rfl
theorem c_79_156 : mj_code 79 156 = some (.istore 7, 158, 0, 0, 0) := rfl
theorem c_79_158 : mj_code 79 158 = some (.iload 7, 160, 0, 0, 0) := rfl
theorem c_79_160 : mj_code 79 160 = some (.ireturn, 161, 0, 0, 0) := rfl
theorem c_80_0 : mj_code 80 0 = some (.aload_n 0, 1, 0, 0, 0) := rfl
theorem c_80_1 : mj_code 80 1 = some (.aload_n 0, 2, 0, 0, 0) := rfl
theorem c_80_2 : mj_code 80 2 = some (.getfield 17, 5, 9, 3, 253) := rfl
theorem c_80_5 : mj_code 80 5 = some (.iload_n 1, 6, 0, 0, 0) := rfl
theorem c_80_6 : mj_code 80 6 = some (.iaload, 7, 0, 0, 0) := rfl
theorem c_80_7 : mj_code 80 7 = some (.iload_n 2, 8, 0, 0, 0) := rfl
theorem c_80_8 : mj_code 80 8 = some (.invokevirtual 65, 11, 81, 0, 974) := rfl
theorem c_80_11 : mj_code 80 11 = some (.ifCond .eq 32, 14, 43, 0, 0) := rfl
theorem c_80_14 : mj_code 80 14 = some (.aload_n 0, 15, 0, 0, 0) := rfl
theorem c_80_15 : mj_code 80 15 = some (.aload_n 0, 16, 0, 0, 0) := rfl
theorem c_80_16 : mj_code 80 16 = some (.getfield 20, 19, 9, 4, 255) := rfl
theorem c_80_19 : mj_code 80 19 = some (.iload_n 1, 20, 0, 0, 0) := rfl
theorem c_80_20 : mj_code 80 20 = some (.iaload, 21, 0, 0, 0) := rfl
theorem c_80_21 : mj_code 80 21 = some (.iload_n 3, 22, 0, 0, 0) := rfl
theorem c_80_22 : mj_code 80 22 = some (.invokevirtual 65, 25, 81, 0, 974) := rfl
theorem c_80_25 : mj_code 80 25 = some (.ifCond .eq 18, 28, 43, 0, 0) := rfl
theorem c_80_28 : mj_code 80 28 = some (.aload_n 0, 29, 0, 0, 0) := rfl
theorem c_80_29 : mj_code 80 29 = some (.aload_n 0, 30, 0, 0, 0) := rfl
theorem c_80_30 : mj_code 80 30 = some (.getfield 23, 33, 9, 5, 257) := rfl
theorem c_80_33 : mj_code 80 33 = some (.iload_n 1, 34, 0, 0, 0) := rfl
theorem c_80_34 : mj_code 80 34 = some (.iaload, 35, 0, 0, 0) := rfl
theorem c_80_35 : mj_code 80 35 = some (.iload 4, 37, 0, 0, 0) := rfl
theorem c_80_37 : mj_code 80 37 = some (.invokevirtual 65, 40, 81, 0, 974) := rfl
theorem c_80_40 : mj_code 80 40 = some (.ifCond .ne 5, 43, 45, 0, 0) := rfl
theorem c_80_43 : mj_code 80 43 = some (.iconst 0, 44, 0, 0, 0) := rfl
theorem c_80_44 : mj_code 80 44 = some (.ireturn, 45, 0, 0, 0) := rfl
theorem c_80_45 : mj_code 80 45 = some (.aload_n 0, 46, 0, 0, 0) := rfl
theorem c_80_46 : mj_code 80 46 = some (.getfield 17, 49, 9, 3, 253) := rfl
theorem c_80_49 : mj_code 80 49 = some (.iload_n 1, 50, 0, 0, 0) := rfl
theorem c_80_50 : mj_code 80 50 = some (.iaload, 51, 0, 0, 0) := rfl
theorem c_80_51 : mj_code 80 51 = some (.aload_n 0, 52, 0, 0, 0) := rfl
theorem c_80_52 : mj_code 80 52 = some (.getfield 20, 55, 9, 4, 255) := rfl
theorem c_80_55 : mj_code 80 55 = some (.iload_n 1, 56, 0, 0, 0) := rfl
theorem c_80_56 : mj_code 80 56 = some (.iaload, 57, 0, 0, 0) := rfl
theorem c_80_57 : mj_code 80 57 = some (.if_icmp .ne 8, 60, 65, 0, 0) := rfl
theorem c_80_60 : mj_code 80 60 = some (.iload_n 2, 61, 0, 0, 0) := rfl
theorem c_80_61 : mj_code 80 61 = some (.iload_n 3, 62, 0, 0, 0) := rfl
theorem c_80_62 : mj_code 80 62 = some (.if_icmp .ne 49, 65, 111, 0, 0) := rfl
theorem c_80_65 : mj_code 80 65 = some (.aload_n 0, 66, 0, 0, 0) := rfl
theorem c_80_66 : mj_code 80 66 = some (.getfield 20, 69, 9, 4, 255) := rfl
theorem c_80_69 : mj_code 80 69 = some (.iload_n 1, 70, 0, 0, 0) := rfl
theorem c_80_70 : mj_code 80 70 = some (.iaload, 71, 0, 0, 0) := rfl
theorem c_80_71 : mj_code 80 71 = some (.aload_n 0, 72, 0, 0, 0) := rfl
theorem c_80_72 : mj_code 80 72 = some (.getfield 23, 75, 9, 5, 257) := rfl
theorem c_80_75 : mj_code 80 75 = some (.iload_n 1, 76, 0, 0, 0) := rfl
theorem c_80_76 : mj_code 80 76 = some (.iaload, 77, 0, 0, 0) := rfl
theorem c_80_77 : mj_code 80 77 = some (.if_icmp .ne 9, 80, 86, 0, 0) := rfl
theorem c_80_80 : mj_code 80 80 = some (.iload_n 3, 81, 0, 0, 0) := rfl
theorem c_80_81 : mj_code 80 81 = some (.iload 4, 83, 0, 0, 0) := rfl
theorem c_80_83 : mj_code 80 83 = some (.if_icmp .ne 28, 86, 111, 0, 0) := rfl
theorem c_80_86 : mj_code 80 86 = some (.aload_n 0, 87, 0, 0, 0) := rfl
theorem c_80_87 : mj_code 80 87 = some (.getfield 17, 90, 9, 3, 253) := rfl
theorem c_80_90 : mj_code 80 90 = some (.iload_n 1, 91, 0, 0, 0) := rfl
theorem c_80_91 : mj_code 80 91 = some (.iaload, 92, 0, 0, 0) := rfl
theorem c_80_92 : mj_code 80 92 = some (.aload_n 0, 93, 0, 0, 0) := rfl
theorem c_80_93 : mj_code 80 93 = some (.getfield 23, 96, 9, 5, 257) := rfl
theorem c_80_96 : mj_code 80 96 = some (.iload_n 1, 97, 0, 0, 0) := rfl
theorem c_80_97 : mj_code 80 97 = some (.iaload, 98, 0, 0, 0) := rfl
theorem c_80_98 : mj_code 80 98 = some (.if_icmp .ne 9, 101, 107, 0, 0) := rfl
theorem c_80_101 : mj_code 80 101 = some (.iload_n 2, 102, 0, 0, 0) := rfl
theorem c_80_102 : mj_code 80 102 = some (.iload 4, 104, 0, 0, 0) := rfl
theorem c_80_104 : mj_code 80 104 = some (.if_icmp .ne 7, 107, 111, 0, 0) := rfl
theorem c_80_107 : mj_code 80 107 = some (.iconst 1, 108, 0, 0, 0) := rfl
theorem c_80_108 : mj_code 80 108 = some (.goto 4, 111, 112, 0, 0) := rfl
theorem c_80_111 : mj_code 80 111 = some (.iconst 0, 112, 0, 0, 0) := rfl
theorem c_80_112 : mj_code 80 112 = some (.ireturn, 113, 0, 0, 0) := rfl
theorem c_81_0 : mj_code 81 0 = some (.aload_n 0, 1, 0, 0, 0) := rfl
theorem c_81_1 : mj_code 81 1 = some (.getfield 26, 4, 9, 6, 259) := rfl
theorem c_81_4 : mj_code 81 4 = some (.iload_n 1, 5, 0, 0, 0) := rfl
theorem c_81_5 : mj_code 81 5 = some (.iaload, 6, 0, 0, 0) := rfl
theorem c_81_6 : mj_code 81 6 = some (.iload_n 2, 7, 0, 0, 0) := rfl
theorem c_81_7 : mj_code 81 7 = some (.ishr, 8, 0, 0, 0) := rfl
theorem c_81_8 : mj_code 81 8 = some (.iconst 1, 9, 0, 0, 0) := rfl
theorem c_81_9 : mj_code 81 9 = some (.iand, 10, 0, 0, 0) := rfl
theorem c_81_10 : mj_code 81 10 = some (.ifCond .eq 7, 13, 17, 0, 0) := rfl
theorem c_81_13 : mj_code 81 13 = some (.iconst 1, 14, 0, 0, 0) := rfl
theorem c_81_14 : mj_code 81 14 = some (.goto 4, 17, 18, 0, 0) := rfl
theorem c_81_17 : mj_code 81 17 = some (.iconst 0, 18, 0, 0, 0) := rfl
theorem c_81_18 : mj_code 81 18 = some (.ireturn, 19, 0, 0, 0) := rfl
theorem c_82_0 : mj_code 82 0 = some (.aload_n 0, 1, 0, 0, 0) := rfl
theorem c_82_1 : mj_code 82 1 = some (.getfield 26, 4, 9, 6, 259) := rfl
theorem c_82_4 : mj_code 82 4 = some (.iload_n 1, 5, 0, 0, 0) := rfl
theorem c_82_5 : mj_code 82 5 = some (.iaload, 6, 0, 0, 0) := rfl
theorem c_82_6 : mj_code 82 6 = some (.istore_n 3, 7, 0, 0, 0) := rfl
theorem c_82_7 : mj_code 82 7 = some (.aload_n 0, 8, 0, 0, 0) := rfl
theorem c_82_8 : mj_code 82 8 = some (.getfield 26, 11, 9, 6, 259) := rfl
theorem c_82_11 : mj_code 82 11 = some (.iload_n 1, 12, 0, 0, 0) := rfl
theorem c_82_12 : mj_code 82 12 = some (.iload_n 3, 13, 0, 0, 0) := rfl
theorem c_82_13 : mj_code 82 13 = some (.iload_n 2, 14, 0, 0, 0) := rfl
theorem c_82_14 : mj_code 82 14 = some (.iand, 15, 0, 0, 0) := rfl
theorem c_82_15 : mj_code 82 15 = some (.iastore, 16, 0, 0, 0) := rfl
theorem c_82_16 : mj_code 82 16 = some (.aload_n 0, 17, 0, 0, 0) := rfl
theorem c_82_17 : mj_code 82 17 = some (.getfield 26, 20, 9, 6, 259) := rfl
theorem c_82_20 : mj_code 82 20 = some (.iload_n 1, 21, 0, 0, 0) := rfl
theorem c_82_21 : mj_code 82 21 = some (.iaload, 22, 0, 0, 0) := rfl
theorem c_82_22 : mj_code 82 22 = some (.iload_n 3, 23, 0, 0, 0) := rfl
theorem c_82_23 : mj_code 82 23 = some (.if_icmp .eq 7, 26, 30, 0, 0) := rfl
theorem c_82_26 : mj_code 82 26 = some (.iconst 1, 27, 0, 0, 0) := rfl
theorem c_82_27 : mj_code 82 27 = some (.goto 4, 30, 31, 0, 0) := rfl
theorem c_82_30 : mj_code 82 30 = some (.iconst 0, 31, 0, 0, 0) := rfl
theorem c_82_31 : mj_code 82 31 = some (.ireturn, 32, 0, 0, 0) := rfl
theorem c_84_0 : mj_code 84 0 = some (.iload_n 1, 1, 0, 0, 0) := rfl
theorem c_84_1 : mj_code 84 1 = some (.ifCond .lt 13, 4, 14, 0, 0) := rfl
theorem c_84_4 : mj_code 84 4 = some (.iload_n 1, 5, 0, 0, 0) := rfl
theorem c_84_5 : mj_code 84 5 = some (.bipush 8, 7, 0, 0, 0) := rfl
theorem c_84_7 : mj_code 84 7 = some (.if_icmp .ge 7, 10, 14, 0, 0) := rfl
theorem c_84_10 : mj_code 84 10 = some (.iconst 1, 11, 0, 0, 0) := rfl
theorem c_84_11 : mj_code 84 11 = some (.goto 4, 14, 15, 0, 0) := rfl
theorem c_84_14 : mj_code 84 14 = some (.iconst 0, 15, 0, 0, 0) := rfl
theorem c_84_15 : mj_code 84 15 = some (.ireturn, 16, 0, 0, 0) := rfl
theorem c_85_0 : mj_code 85 0 = some (.aload_n 0, 1, 0, 0, 0) := rfl
theorem c_85_1 : mj_code 85 1 = some (.iload_n 1, 2, 0, 0, 0) := rfl
theorem c_85_2 : mj_code 85 2 = some (.invokevirtual 28, 5, 84, 0, 542) := rfl
theorem c_85_5 : mj_code 85 5 = some (.ifCond .eq 16, 8, 21, 0, 0) := rfl
theorem c_85_8 : mj_code 85 8 = some (.aload_n 0, 9, 0, 0, 0) := rfl
theorem c_85_9 : mj_code 85 9 = some (.getfield 19, 12, 10, 2, 160) := rfl
theorem c_85_12 : mj_code 85 12 = some (.iload_n 1, 13, 0, 0, 0) := rfl
theorem c_85_13 : mj_code 85 13 = some (.iaload, 14, 0, 0, 0) := rfl
theorem c_85_14 : mj_code 85 14 = some (.ifCond .lt 7, 17, 21, 0, 0) := rfl
theorem c_85_17 : mj_code 85 17 = some (.iconst 1, 18, 0, 0, 0) := rfl
theorem c_85_18 : mj_code 85 18 = some (.goto 4, 21, 22, 0, 0) := rfl
theorem c_85_21 : mj_code 85 21 = some (.iconst 0, 22, 0, 0, 0) := rfl
theorem c_85_22 : mj_code 85 22 = some (.ireturn, 23, 0, 0, 0) := rfl
theorem c_86_0 : mj_code 86 0 = some (.aload_n 0, 1, 0, 0, 0) := rfl
theorem c_86_1 : mj_code 86 1 = some (.getfield 15, 4, 10, 1, 159) := rfl
theorem c_86_4 : mj_code 86 4 = some (.iload_n 1, 5, 0, 0, 0) := rfl
theorem c_86_5 : mj_code 86 5 = some (.iload_n 2, 6, 0, 0, 0) := rfl
theorem c_86_6 : mj_code 86 6 = some (.iastore, 7, 0, 0, 0) := rfl
theorem c_86_7 : mj_code 86 7 = some (.aload_n 0, 8, 0, 0, 0) := rfl
theorem c_86_8 : mj_code 86 8 = some (.getfield 19, 11, 10, 2, 160) := rfl
theorem c_86_11 : mj_code 86 11 = some (.iload_n 1, 12, 0, 0, 0) := rfl
theorem c_86_12 : mj_code 86 12 = some (.iload_n 3, 13, 0, 0, 0) := rfl
theorem c_86_13 : mj_code 86 13 = some (.iastore, 14, 0, 0, 0) := rfl
theorem c_86_14 : mj_code 86 14 = some (.iconst 0, 15, 0, 0, 0) := rfl
theorem c_86_15 : mj_code 86 15 = some (.istore 4, 17, 0, 0, 0) := rfl
theorem c_86_17 : mj_code 86 17 = some (.iload 4, 19, 0, 0, 0) := rfl
theorem c_86_19 : mj_code 86 19 = some (.bipush 40, 21, 0, 0, 0) := rfl
theorem c_86_21 : mj_code 86 21 = some (.if_icmp .ge 22, 24, 43, 0, 0) := rfl
theorem c_86_24 : mj_code 86 24 = some (.aload_n 0, 25, 0, 0, 0) := rfl
theorem c_86_25 : mj_code 86 25 = some (.getfield 11, 28, 10, 0, 158) := rfl
theorem c_86_28 : mj_code 86 28 = some (.iload_n 1, 29, 0, 0, 0) := rfl
theorem c_86_29 : mj_code 86 29 = some (.bipush 40, 31, 0, 0, 0) := rfl
theorem c_86_31 : mj_code 86 31 = some (.imul, 32, 0, 0, 0) := rfl
theorem c_86_32 : mj_code 86 32 = some (.iload 4, 34, 0, 0, 0) := rfl
theorem c_86_34 : mj_code 86 34 = some (.iadd, 35, 0, 0, 0) := rfl
theorem c_86_35 : mj_code 86 35 = some (.lconst 0, 36, 0, 0, 0) := rfl
theorem c_86_36 : mj_code 86 36 = some (.lastore, 37, 0, 0, 0) := rfl
theorem c_86_37 : mj_code 86 37 = some (.iinc 4 1, 40, 0, 0, 0) := rfl
theorem c_86_40 : mj_code 86 40 = some (.goto (-23), 43, 17, 0, 0) := rfl
theorem c_86_43 : mj_code 86 43 = some (.return_, 44, 0, 0, 0) := rfl
theorem c_87_0 : mj_code 87 0 = some (.aload_n 0, 1, 0, 0, 0) := rfl
theorem c_87_1 : mj_code 87 1 = some (.getfield 19, 4, 10, 2, 160) := rfl
theorem c_87_4 : mj_code 87 4 = some (.iload_n 1, 5, 0, 0, 0) := rfl
theorem c_87_5 : mj_code 87 5 = some (.iconst (-1), 6, 0, 0, 0) := rfl
theorem c_87_6 : mj_code 87 6 = some (.iastore, 7, 0, 0, 0) := rfl
theorem c_87_7 : mj_code 87 7 = some (.return_, 8, 0, 0, 0) := rfl
theorem c_88_0 : mj_code 88 0 = some (.iload_n 2, 1, 0, 0, 0) := rfl
theorem c_88_1 : mj_code 88 1 = some (.ifCond .lt 13, 4, 14, 0, 0) := rfl
theorem c_88_4 : mj_code 88 4 = some (.iload_n 2, 5, 0, 0, 0) := rfl
theorem c_88_5 : mj_code 88 5 = some (.aload_n 0, 6, 0, 0, 0) := rfl
theorem c_88_6 : mj_code 88 6 = some (.getfield 19, 9, 10, 2, 160) := rfl
theorem c_88_9 : mj_code 88 9 = some (.iload_n 1, 10, 0, 0, 0) := rfl
theorem c_88_10 : mj_code 88 10 = some (.iaload, 11, 0, 0, 0) := rfl
theorem c_88_11 : mj_code 88 11 = some (.if_icmp .lt 5, 14, 16, 0, 0) := rfl
theorem c_88_14 : mj_code 88 14 = some (.iconst 0, 15, 0, 0, 0) := rfl
theorem c_88_15 : mj_code 88 15 = some (.ireturn, 16, 0, 0, 0) := rfl
theorem c_88_16 : mj_code 88 16 = some (.aload_n 0, 17, 0, 0, 0) := rfl
theorem c_88_17 : mj_code 88 17 = some (.getfield 11, 20, 10, 0, 158) := rfl
theorem c_88_20 : mj_code 88 20 = some (.iload_n 1, 21, 0, 0, 0) := rfl
theorem c_88_21 : mj_code 88 21 = some (.bipush 40, 23, 0, 0, 0) := rfl
theorem c_88_23 : mj_code 88 23 = some (.imul, 24, 0, 0, 0) := rfl
theorem c_88_24 : mj_code 88 24 = some (.iload_n 2, 25, 0, 0, 0) := rfl
theorem c_88_25 : mj_code 88 25 = some (.iadd, 26, 0, 0, 0) := rfl
theorem c_88_26 : mj_code 88 26 = some (.aload_n 0, 27, 0, 0, 0) := rfl
theorem c_88_27 : mj_code 88 27 = some (.lload_n 3, 28, 0, 0, 0) := rfl
theorem c_88_28 : mj_code 88 28 = some (.aload_n 0, 29, 0, 0, 0) := rfl
theorem c_88_29 : mj_code 88 29 = some (.getfield 15, 32, 10, 1, 159) := rfl
theorem c_88_32 : mj_code 88 32 = some (.iload_n 1, 33, 0, 0, 0) := rfl
theorem c_88_33 : mj_code 88 33 = some (.iaload, 34, 0, 0, 0) := rfl
theorem c_88_34 : mj_code 88 34 = some (.invokevirtual 32, 37, 91, 0, 555) := rfl
theorem c_88_37 : mj_code 88 37 = some (.lastore, 38, 0, 0, 0) := rfl
theorem c_88_38 : mj_code 88 38 = some (.iconst 1, 39, 0, 0, 0) := rfl
theorem c_88_39 : mj_code 88 39 = some (.ireturn, 40, 0, 0, 0) := rfl
theorem c_89_0 : mj_code 89 0 = some (.iload_n 2, 1, 0, 0, 0) := rfl
theorem c_89_1 : mj_code 89 1 = some (.ifCond .lt 13, 4, 14, 0, 0) := rfl
theorem c_89_4 : mj_code 89 4 = some (.iload_n 2, 5, 0, 0, 0) := rfl
theorem c_89_5 : mj_code 89 5 = some (.aload_n 0, 6, 0, 0, 0) := rfl
theorem c_89_6 : mj_code 89 6 = some (.getfield 19, 9, 10, 2, 160) := rfl
theorem c_89_9 : mj_code 89 9 = some (.iload_n 1, 10, 0, 0, 0) := rfl
theorem c_89_10 : mj_code 89 10 = some (.iaload, 11, 0, 0, 0) := rfl
theorem c_89_11 : mj_code 89 11 = some (.if_icmp .lt 6, 14, 17, 0, 0) := rfl
theorem c_89_14 : mj_code 89 14 = some (.bipush (-6), 16, 0, 0, 0) := rfl
theorem c_89_16 : mj_code 89 16 = some (.ireturn, 17, 0, 0, 0) := rfl
theorem c_89_17 : mj_code 89 17 = some (.aload_n 0, 18, 0, 0, 0) := rfl
theorem c_89_18 : mj_code 89 18 = some (.getfield 11, 21, 10, 0, 158) := rfl
theorem c_89_21 : mj_code 89 21 = some (.iload_n 1, 22, 0, 0, 0) := rfl
theorem c_89_22 : mj_code 89 22 = some (.bipush 40, 24, 0, 0, 0) := rfl
theorem c_89_24 : mj_code 89 24 = some (.imul, 25, 0, 0, 0) := rfl
theorem c_89_25 : mj_code 89 25 = some (.iload_n 2, 26, 0, 0, 0) := rfl
theorem c_89_26 : mj_code 89 26 = some (.iadd, 27, 0, 0, 0) := rfl
theorem c_89_27 : mj_code 89 27 = some (.laload, 28, 0, 0, 0) := rfl
theorem c_89_28 : mj_code 89 28 = some (.lstore 4, 30, 0, 0, 0) := rfl
theorem c_89_30 : mj_code 89 30 = some (.lload 4, 32, 0, 0, 0) := rfl
theorem c_89_32 : mj_code 89 32 = some (.lconst 0, 33, 0, 0, 0) := rfl
theorem c_89_33 : mj_code 89 33 = some (.lcmp, 34, 0, 0, 0) := rfl
theorem c_89_34 : mj_code 89 34 = some (.ifCond .lt 11, 37, 45, 0, 0) := rfl
theorem c_89_37 : mj_code 89 37 = some (.lload 4, 39, 0, 0, 0) := rfl
theorem c_89_39 : mj_code 89 39 = some (.iload_n 3, 40, 0, 0, 0) := rfl
theorem c_89_40 : mj_code 89 40 = some (.i2l, 41, 0, 0, 0) := rfl
theorem c_89_41 : mj_code 89 41 = some (.lcmp, 42, 0, 0, 0) := rfl
theorem c_89_42 : mj_code 89 42 = some (.ifCond .le 6, 45, 48, 0, 0) := rfl
theorem c_89_45 : mj_code 89 45 = some (.bipush (-4), 47, 0, 0, 0) := rfl
theorem c_89_47 : mj_code 89 47 = some (.ireturn, 48, 0, 0, 0) := rfl
theorem c_89_48 : mj_code 89 48 = some (.lload 4, 50, 0, 0, 0) := rfl
theorem c_89_50 : mj_code 89 50 = some (.l2i, 51, 0, 0, 0) := rfl
theorem c_89_51 : mj_code 89 51 = some (.ireturn, 52, 0, 0, 0) := rfl
theorem c_90_0 : mj_code 90 0 = some (.iconst 0, 1, 0, 0, 0) := rfl
theorem c_90_1 : mj_code 90 1 = some (.istore_n 1, 2, 0, 0, 0) := rfl
theorem c_90_2 : mj_code 90 2 = some (.iconst 0, 3, 0, 0, 0) := rfl
theorem c_90_3 : mj_code 90 3 = some (.istore_n 2, 4, 0, 0, 0) := rfl
theorem c_90_4 : mj_code 90 4 = some (.iload_n 2, 5, 0, 0, 0) := rfl
theorem c_90_5 : mj_code 90 5 = some (.bipush 8, 7, 0, 0, 0) := rfl
theorem c_90_7 : mj_code 90 7 = some (.if_icmp .ge 21, 10, 28, 0, 0) := rfl
theorem c_90_10 : mj_code 90 10 = some (.aload_n 0, 11, 0, 0, 0) := rfl
theorem c_90_11 : mj_code 90 11 = some (.getfield 19, 14, 10, 2, 160) := rfl
theorem c_90_14 : mj_code 90 14 = some (.iload_n 2, 15, 0, 0, 0) := rfl
theorem c_90_15 : mj_code 90 15 = some (.iaload, 16, 0, 0, 0) := rfl
theorem c_90_16 : mj_code 90 16 = some (.ifCond .lt 6, 19, 22, 0, 0) := rfl
theorem c_90_19 : mj_code 90 19 = some (.iinc 1 1, 22, 0, 0, 0) := rfl
theorem c_90_22 : mj_code 90 22 = some (.iinc 2 1, 25, 0, 0, 0) := rfl
theorem c_90_25 : mj_code 90 25 = some (.goto (-21), 28, 4, 0, 0) := rfl
theorem c_90_28 : mj_code 90 28 = some (.iload_n 1, 29, 0, 0, 0) := rfl
theorem c_90_29 : mj_code 90 29 = some (.ireturn, 30, 0, 0, 0) := rfl
theorem c_91_0 : mj_code 91 0 = some (.iload_n 3, 1, 0, 0, 0) := rfl
theorem c_91_1 : mj_code 91 1 = some (.tableswitch 41 0 2 #[27, 32, 37], 28, 0, 0, 0) := rfl
theorem c_91_28 : mj_code 91 28 = some (.lload_n 1, 29, 0, 0, 0) := rfl
theorem c_91_29 : mj_code 91 29 = some (.l2i, 30, 0, 0, 0) := rfl
theorem c_91_30 : mj_code 91 30 = some (.i2b, 31, 0, 0, 0) := rfl
theorem c_91_31 : mj_code 91 31 = some (.i2l, 32, 0, 0, 0) := rfl
theorem c_91_32 : mj_code 91 32 = some (.lreturn, 33, 0, 0, 0) := rfl
theorem c_91_33 : mj_code 91 33 = some (.lload_n 1, 34, 0, 0, 0) := rfl
theorem c_91_34 : mj_code 91 34 = some (.l2i, 35, 0, 0, 0) := rfl
theorem c_91_35 : mj_code 91 35 = some (.i2s, 36, 0, 0, 0) := rfl
theorem c_91_36 : mj_code 91 36 = some (.i2l, 37, 0, 0, 0) := rfl
theorem c_91_37 : mj_code 91 37 = some (.lreturn, 38, 0, 0, 0) := rfl
theorem c_91_38 : mj_code 91 38 = some (.lload_n 1, 39, 0, 0, 0) := rfl
theorem c_91_39 : mj_code 91 39 = some (.l2i, 40, 0, 0, 0) := rfl
theorem c_91_40 : mj_code 91 40 = some (.i2l, 41, 0, 0, 0) := rfl
theorem c_91_41 : mj_code 91 41 = some (.lreturn, 42, 0, 0, 0) := rfl
theorem c_91_42 : mj_code 91 42 = some (.lload_n 1, 43, 0, 0, 0) := rfl
theorem c_91_43 : mj_code 91 43 = some (.lreturn, 44, 0, 0, 0) := rfl
theorem c_93_0 : mj_code 93 0 = some (.iload_n 1, 1, 0, 0, 0) := rfl
theorem c_93_1 : mj_code 93 1 = some (.iconst 2, 2, 0, 0, 0) := rfl
theorem c_93_2 : mj_code 93 2 = some (.if_icmp .eq 10, 5, 12, 0, 0) := rfl
theorem c_93_5 : mj_code 93 5 = some (.iload_n 1, 6, 0, 0, 0) := rfl
theorem c_93_6 : mj_code 93 6 = some (.iconst 3, 7, 0, 0, 0) := rfl
theorem c_93_7 : mj_code 93 7 = some (.if_icmp .eq 5, 10, 12, 0, 0) := rfl
theorem c_93_10 : mj_code 93 10 = some (.iconst 0, 11, 0, 0, 0) := rfl
theorem c_93_11 : mj_code 93 11 = some (.ireturn, 12, 0, 0, 0) := rfl
theorem c_93_12 : mj_code 93 12 = some (.aload_n 0, 13, 0, 0, 0) := rfl
theorem c_93_13 : mj_code 93 13 = some (.iload_n 1, 14, 0, 0, 0) := rfl
theorem c_93_14 : mj_code 93 14 = some (.invokevirtual 99, 17, 122, 0, 439) := rfl
theorem c_93_17 : mj_code 93 17 = some (.iconst 1, 18, 0, 0, 0) := rfl
theorem c_93_18 : mj_code 93 18 = some (.ireturn, 19, 0, 0, 0) := rfl
theorem c_94_0 : mj_code 94 0 = some (.aload_n 0, 1, 0, 0, 0) := rfl
theorem c_94_1 : mj_code 94 1 = some (.getfield 19, 4, 11, 1, 461) := rfl
theorem c_94_4 : mj_code 94 4 = some (.iload_n 1, 5, 0, 0, 0) := rfl
theorem c_94_5 : mj_code 94 5 = some (.invokevirtual 102, 8, 84, 0, 526) := rfl
theorem c_94_8 : mj_code 94 8 = some (.ifCond .eq 18, 11, 26, 0, 0) := rfl
theorem c_94_11 : mj_code 94 11 = some (.iload_n 2, 12, 0, 0, 0) := rfl
theorem c_94_12 : mj_code 94 12 = some (.ifCond .lt 14, 15, 26, 0, 0) := rfl
theorem c_94_15 : mj_code 94 15 = some (.iload_n 2, 16, 0, 0, 0) := rfl
theorem c_94_16 : mj_code 94 16 = some (.iconst 3, 17, 0, 0, 0) := rfl
theorem c_94_17 : mj_code 94 17 = some (.if_icmp .gt 9, 20, 26, 0, 0) := rfl
theorem c_94_20 : mj_code 94 20 = some (.iload_n 3, 21, 0, 0, 0) := rfl
theorem c_94_21 : mj_code 94 21 = some (.bipush 40, 23, 0, 0, 0) := rfl
theorem c_94_23 : mj_code 94 23 = some (.if_icmp .le 6, 26, 29, 0, 0) := rfl
theorem c_94_26 : mj_code 94 26 = some (.bipush (-2), 28, 0, 0, 0) := rfl
theorem c_94_28 : mj_code 94 28 = some (.ireturn, 29, 0, 0, 0) := rfl
theorem c_94_29 : mj_code 94 29 = some (.iload_n 3, 30, 0, 0, 0) := rfl
theorem c_94_30 : mj_code 94 30 = some (.ifCond .ge 6, 33, 36, 0, 0) := rfl
theorem c_94_33 : mj_code 94 33 = some (.bipush (-3), 35, 0, 0, 0) := rfl
theorem c_94_35 : mj_code 94 35 = some (.ireturn, 36, 0, 0, 0) := rfl
theorem c_94_36 : mj_code 94 36 = some (.aload_n 0, 37, 0, 0, 0) := rfl
theorem c_94_37 : mj_code 94 37 = some (.getfield 19, 40, 11, 1, 461) := rfl
theorem c_94_40 : mj_code 94 40 = some (.iload_n 1, 41, 0, 0, 0) := rfl
theorem c_94_41 : mj_code 94 41 = some (.iload_n 2, 42, 0, 0, 0) := rfl
theorem c_94_42 : mj_code 94 42 = some (.iload_n 3, 43, 0, 0, 0) := rfl
theorem c_94_43 : mj_code 94 43 = some (.invokevirtual 106, 46, 86, 0, 530) := rfl
theorem c_94_46 : mj_code 94 46 = some (.iconst 0, 47, 0, 0, 0) := rfl
theorem c_94_47 : mj_code 94 47 = some (.ireturn, 48, 0, 0, 0) := rfl
theorem c_95_0 : mj_code 95 0 = some (.aload_n 0, 1, 0, 0, 0) := rfl
theorem c_95_1 : mj_code 95 1 = some (.getfield 19, 4, 11, 1, 461) := rfl
theorem c_95_4 : mj_code 95 4 = some (.iload_n 1, 5, 0, 0, 0) := rfl
theorem c_95_5 : mj_code 95 5 = some (.invokevirtual 110, 8, 85, 0, 538) := rfl
theorem c_95_8 : mj_code 95 8 = some (.ifCond .ne 5, 11, 13, 0, 0) := rfl
theorem c_95_11 : mj_code 95 11 = some (.iconst 0, 12, 0, 0, 0) := rfl
theorem c_95_12 : mj_code 95 12 = some (.ireturn, 13, 0, 0, 0) := rfl
theorem c_95_13 : mj_code 95 13 = some (.aload_n 0, 14, 0, 0, 0) := rfl
theorem c_95_14 : mj_code 95 14 = some (.getfield 19, 17, 11, 1, 461) := rfl
theorem c_95_17 : mj_code 95 17 = some (.iload_n 1, 18, 0, 0, 0) := rfl
theorem c_95_18 : mj_code 95 18 = some (.invokevirtual 113, 21, 87, 0, 543) := rfl
theorem c_95_21 : mj_code 95 21 = some (.iconst 1, 22, 0, 0, 0) := rfl
theorem c_95_22 : mj_code 95 22 = some (.ireturn, 23, 0, 0, 0) := rfl
theorem c_96_0 : mj_code 96 0 = some (.aload_n 0, 1, 0, 0, 0) := rfl
theorem c_96_1 : mj_code 96 1 = some (.getfield 19, 4, 11, 1, 461) := rfl
theorem c_96_4 : mj_code 96 4 = some (.iload_n 1, 5, 0, 0, 0) := rfl
theorem c_96_5 : mj_code 96 5 = some (.invokevirtual 102, 8, 84, 0, 526) := rfl
theorem c_96_8 : mj_code 96 8 = some (.ifCond .ne 6, 11, 14, 0, 0) := rfl
theorem c_96_11 : mj_code 96 11 = some (.bipush (-2), 13, 0, 0, 0) := rfl
theorem c_96_13 : mj_code 96 13 = some (.ireturn, 14, 0, 0, 0) := rfl
theorem c_96_14 : mj_code 96 14 = some (.aload_n 0, 15, 0, 0, 0) := rfl
theorem c_96_15 : mj_code 96 15 = some (.getfield 19, 18, 11, 1, 461) := rfl
theorem c_96_18 : mj_code 96 18 = some (.iload_n 1, 19, 0, 0, 0) := rfl
theorem c_96_19 : mj_code 96 19 = some (.invokevirtual 110, 22, 85, 0, 538) := rfl
theorem c_96_22 : mj_code 96 22 = some (.ifCond .ne 6, 25, 28, 0, 0) := rfl
theorem c_96_25 : mj_code 96 25 = some (.bipush (-5), 27, 0, 0, 0) := rfl
theorem c_96_27 : mj_code 96 27 = some (.ireturn, 28, 0, 0, 0) := rfl
theorem c_96_28 : mj_code 96 28 = some (.aload_n 0, 29, 0, 0, 0) := rfl
theorem c_96_29 : mj_code 96 29 = some (.getfield 19, 32, 11, 1, 461) := rfl
theorem c_96_32 : mj_code 96 32 = some (.iload_n 1, 33, 0, 0, 0) := rfl
theorem c_96_33 : mj_code 96 33 = some (.iload_n 2, 34, 0, 0, 0) := rfl
theorem c_96_34 : mj_code 96 34 = some (.lload_n 3, 35, 0, 0, 0) := rfl
theorem c_96_35 : mj_code 96 35 = some (.invokevirtual 116, 38, 88, 0, 551) := rfl
theorem c_96_38 : mj_code 96 38 = some (.ifCond .eq 7, 41, 45, 0, 0) := rfl
theorem c_96_41 : mj_code 96 41 = some (.iconst 0, 42, 0, 0, 0) := rfl
theorem c_96_42 : mj_code 96 42 = some (.goto 5, 45, 47, 0, 0) := rfl
theorem c_96_45 : mj_code 96 45 = some (.bipush (-6), 47, 0, 0, 0) := rfl
theorem c_96_47 : mj_code 96 47 = some (.ireturn, 48, 0, 0, 0) := rfl
theorem c_97_0 : mj_code 97 0 = some (.aload_n 0, 1, 0, 0, 0) := rfl
theorem c_97_1 : mj_code 97 1 = some (.getfield 19, 4, 11, 1, 461) := rfl
theorem c_97_4 : mj_code 97 4 = some (.iload_n 2, 5, 0, 0, 0) := rfl
theorem c_97_5 : mj_code 97 5 = some (.invokevirtual 102, 8, 84, 0, 526) := rfl
theorem c_97_8 : mj_code 97 8 = some (.ifCond .eq 11, 11, 19, 0, 0) := rfl
theorem c_97_11 : mj_code 97 11 = some (.aload_n 0, 12, 0, 0, 0) := rfl
theorem c_97_12 : mj_code 97 12 = some (.iload_n 1, 13, 0, 0, 0) := rfl
theorem c_97_13 : mj_code 97 13 = some (.invokevirtual 120, 16, 124, 0, 563) := rfl
theorem c_97_16 : mj_code 97 16 = some (.ifCond .ne 6, 19, 22, 0, 0) := rfl
theorem c_97_19 : mj_code 97 19 = some (.bipush (-2), 21, 0, 0, 0) := rfl
theorem c_97_21 : mj_code 97 21 = some (.ireturn, 22, 0, 0, 0) := rfl
theorem c_97_22 : mj_code 97 22 = some (.aload_n 0, 23, 0, 0, 0) := rfl
theorem c_97_23 : mj_code 97 23 = some (.getfield 123, 26, 11, 14, 474) := rfl
theorem c_97_26 : mj_code 97 26 = some (.bipush 8, 28, 0, 0, 0) := rfl
theorem c_97_28 : mj_code 97 28 = some (.if_icmp .ge 16, 31, 44, 0, 0) := rfl
theorem c_97_31 : mj_code 97 31 = some (.iload_n 1, 32, 0, 0, 0) := rfl
theorem c_97_32 : mj_code 97 32 = some (.iconst 3, 33, 0, 0, 0) := rfl
theorem c_97_33 : mj_code 97 33 = some (.if_icmp .ne 14, 36, 47, 0, 0) := rfl
theorem c_97_36 : mj_code 97 36 = some (.aload_n 0, 37, 0, 0, 0) := rfl
theorem c_97_37 : mj_code 97 37 = some (.invokevirtual 127, 40, 127, 0, 567) := rfl
theorem c_97_40 : mj_code 97 40 = some (.iconst 2, 41, 0, 0, 0) := rfl
theorem c_97_41 : mj_code 97 41 = some (.if_icmp .lt 6, 44, 47, 0, 0) := rfl
theorem c_97_44 : mj_code 97 44 = some (.bipush (-8), 46, 0, 0, 0) := rfl
theorem c_97_46 : mj_code 97 46 = some (.ireturn, 47, 0, 0, 0) := rfl
theorem c_97_47 : mj_code 97 47 = some (.aload_n 0, 48, 0, 0, 0) := rfl
theorem c_97_48 : mj_code 97 48 = some (.getfield 19, 51, 11, 1, 461) := rfl
theorem c_97_51 : mj_code 97 51 = some (.iload_n 2, 52, 0, 0, 0) := rfl
theorem c_97_52 : mj_code 97 52 = some (.invokevirtual 110, 55, 85, 0, 538) := rfl
theorem c_97_55 : mj_code 97 55 = some (.ifCond .ne 6, 58, 61, 0, 0) := rfl
theorem c_97_58 : mj_code 97 58 = some (.bipush (-5), 60, 0, 0, 0) := rfl
theorem c_97_60 : mj_code 97 60 = some (.ireturn, 61, 0, 0, 0) := rfl
theorem c_97_61 : mj_code 97 61 = some (.aload_n 0, 62, 0, 0, 0) := rfl
theorem c_97_62 : mj_code 97 62 = some (.getfield 10, 65, 11, 0, 460) := rfl
theorem c_97_65 : mj_code 97 65 = some (.iload_n 1, 66, 0, 0, 0) := rfl
theorem c_97_66 : mj_code 97 66 = some (.invokevirtual 131, 69, 12, 0, 571) := rfl
theorem c_97_69 : mj_code 97 69 = some (.istore_n 3, 70, 0, 0, 0) := rfl
theorem c_97_70 : mj_code 97 70 = some (.iconst 0, 71, 0, 0, 0) := rfl
theorem c_97_71 : mj_code 97 71 = some (.istore 4, 73, 0, 0, 0) := rfl
theorem c_97_73 : mj_code 97 73 = some (.iload 4, 75, 0, 0, 0) := rfl
theorem c_97_75 : mj_code 97 75 = some (.iload_n 3, 76, 0, 0, 0) := rfl
theorem c_97_76 : mj_code 97 76 = some (.if_icmp .ge 54, 79, 130, 0, 0) := rfl
theorem c_97_79 : mj_code 97 79 = some (.iload 4, 81, 0, 0, 0) := rfl
theorem c_97_81 : mj_code 97 81 = some (.bipush 27, 83, 0, 0, 0) := rfl
theorem c_97_83 : mj_code 97 83 = some (.if_icmp .ge 47, 86, 130, 0, 0) := rfl
theorem c_97_86 : mj_code 97 86 = some (.aload_n 0, 87, 0, 0, 0) := rfl
theorem c_97_87 : mj_code 97 87 = some (.getfield 19, 90, 11, 1, 461) := rfl
theorem c_97_90 : mj_code 97 90 = some (.iload_n 2, 91, 0, 0, 0) := rfl
theorem c_97_91 : mj_code 97 91 = some (.iload 4, 93, 0, 0, 0) := rfl
theorem c_97_93 : mj_code 97 93 = some (.aload_n 0, 94, 0, 0, 0) := rfl
theorem c_97_94 : mj_code 97 94 = some (.getfield 10, 97, 11, 0, 460) := rfl
theorem c_97_97 : mj_code 97 97 = some (.getfield 135, 100, 1, 0, 112) := rfl
theorem c_97_100 : mj_code 97 100 = some (.iconst 1, 101, 0, 0, 0) := rfl
theorem c_97_101 : mj_code 97 101 = some (.isub, 102, 0, 0, 0) := rfl
theorem c_97_102 : mj_code 97 102 = some (.invokevirtual 138, 105, 89, 0, 575) := rfl
theorem c_97_105 : mj_code 97 105 = some (.istore 5, 107, 0, 0, 0) := rfl
theorem c_97_107 : mj_code 97 107 = some (.iload 5, 109, 0, 0, 0) := rfl
theorem c_97_109 : mj_code 97 109 = some (.ifCond .ge 6, 112, 115, 0, 0) := rfl
theorem c_97_112 : mj_code 97 112 = some (.iload 5, 114, 0, 0, 0) := rfl
theorem c_97_114 : mj_code 97 114 = some (.ireturn, 115, 0, 0, 0) := rfl
theorem c_97_115 : mj_code 97 115 = some (.aload_n 0, 116, 0, 0, 0) := rfl
theorem c_97_116 : mj_code 97 116 = some (.getfield 93, 119, 11, 13, 473) := rfl
theorem c_97_119 : mj_code 97 119 = some (.iload 4, 121, 0, 0, 0) := rfl
theorem c_97_121 : mj_code 97 121 = some (.iload 5, 123, 0, 0, 0) := rfl
theorem c_97_123 : mj_code 97 123 = some (.iastore, 124, 0, 0, 0) := rfl
theorem c_97_124 : mj_code 97 124 = some (.iinc 4 1, 127, 0, 0, 0) := rfl
theorem c_97_127 : mj_code 97 127 = some (.goto (-54), 130, 73, 0, 0) := rfl
theorem c_97_130 : mj_code 97 130 = some (.aload_n 0, 131, 0, 0, 0) := rfl
theorem c_97_131 : mj_code 97 131 = some (.getfield 25, 134, 11, 2, 462) := rfl
theorem c_97_134 : mj_code 97 134 = some (.aload_n 0, 135, 0, 0, 0) := rfl
theorem c_97_135 : mj_code 97 135 = some (.getfield 123, 138, 11, 14, 474) := rfl
theorem c_97_138 : mj_code 97 138 = some (.aaload, 139, 0, 0, 0) := rfl
theorem c_97_139 : mj_code 97 139 = some (.iload_n 1, 140, 0, 0, 0) := rfl
theorem c_97_140 : mj_code 97 140 = some (.aload_n 0, 141, 0, 0, 0) := rfl
theorem c_97_141 : mj_code 97 141 = some (.getfield 93, 144, 11, 13, 473) := rfl
theorem c_97_144 : mj_code 97 144 = some (.aload_n 0, 145, 0, 0, 0) := rfl
theorem c_97_145 : mj_code 97 145 = some (.getfield 10, 148, 11, 0, 460) := rfl
theorem c_97_148 : mj_code 97 148 = some (.invokevirtual 142, 151, 2, 0, 579) := rfl
theorem c_97_151 : mj_code 97 151 = some (.aload_n 0, 152, 0, 0, 0) := rfl
theorem c_97_152 : mj_code 97 152 = some (.invokevirtual 146, 155, 123, 0, 452) := rfl
theorem c_97_155 : mj_code 97 155 = some (.aload_n 0, 156, 0, 0, 0) := rfl
theorem c_97_156 : mj_code 97 156 = some (.dup, 157, 0, 0, 0) := rfl
theorem c_97_157 : mj_code 97 157 = some (.getfield 123, 160, 11, 14, 474) := rfl
theorem c_97_160 : mj_code 97 160 = some (.dup_x1, 161, 0, 0, 0) := rfl
theorem c_97_161 : mj_code 97 161 = some (.iconst 1, 162, 0, 0, 0) := rfl
theorem c_97_162 : mj_code 97 162 = some (.iadd, 163, 0, 0, 0) := rfl
theorem c_97_163 : mj_code 97 163 = some (.putfield 123, 166, 11, 14, 474) := rfl
theorem c_97_166 : mj_code 97 166 = some (.ireturn, 167, 0, 0, 0) := rfl
theorem c_98_0 : mj_code 98 0 = some (.aload_n 0, 1, 0, 0, 0) := rfl
theorem c_98_1 : mj_code 98 1 = some (.getfield 19, 4, 11, 1, 461) := rfl
theorem c_98_4 : mj_code 98 4 = some (.iload_n 2, 5, 0, 0, 0) := rfl
theorem c_98_5 : mj_code 98 5 = some (.invokevirtual 102, 8, 84, 0, 526) := rfl
theorem c_98_8 : mj_code 98 8 = some (.ifCond .eq 11, 11, 19, 0, 0) := rfl
theorem c_98_11 : mj_code 98 11 = some (.aload_n 0, 12, 0, 0, 0) := rfl
theorem c_98_12 : mj_code 98 12 = some (.iload_n 1, 13, 0, 0, 0) := rfl
theorem c_98_13 : mj_code 98 13 = some (.invokevirtual 120, 16, 124, 0, 563) := rfl
theorem c_98_16 : mj_code 98 16 = some (.ifCond .ne 6, 19, 22, 0, 0) := rfl
theorem c_98_19 : mj_code 98 19 = some (.bipush (-2), 21, 0, 0, 0) := rfl
theorem c_98_21 : mj_code 98 21 = some (.ireturn, 22, 0, 0, 0) := rfl
theorem c_98_22 : mj_code 98 22 = some (.aload_n 0, 23, 0, 0, 0) := rfl
theorem c_98_23 : mj_code 98 23 = some (.getfield 149, 26, 11, 15, 475) := rfl
theorem c_98_26 : mj_code 98 26 = some (.bipush 12, 28, 0, 0, 0) := rfl
theorem c_98_28 : mj_code 98 28 = some (.if_icmp .lt 6, 31, 34, 0, 0) := rfl
theorem c_98_31 : mj_code 98 31 = some (.bipush (-8), 33, 0, 0, 0) := rfl
theorem c_98_33 : mj_code 98 33 = some (.ireturn, 34, 0, 0, 0) := rfl
theorem c_98_34 : mj_code 98 34 = some (.aload_n 0, 35, 0, 0, 0) := rfl
theorem c_98_35 : mj_code 98 35 = some (.getfield 19, 38, 11, 1, 461) := rfl
theorem c_98_38 : mj_code 98 38 = some (.iload_n 2, 39, 0, 0, 0) := rfl
theorem c_98_39 : mj_code 98 39 = some (.invokevirtual 110, 42, 85, 0, 538) := rfl
theorem c_98_42 : mj_code 98 42 = some (.ifCond .ne 6, 45, 48, 0, 0) := rfl
theorem c_98_45 : mj_code 98 45 = some (.bipush (-5), 47, 0, 0, 0) := rfl
theorem c_98_47 : mj_code 98 47 = some (.ireturn, 48, 0, 0, 0) := rfl
theorem c_98_48 : mj_code 98 48 = some (.aload_n 0, 49, 0, 0, 0) := rfl
theorem c_98_49 : mj_code 98 49 = some (.iload_n 1, 50, 0, 0, 0) := rfl
theorem c_98_50 : mj_code 98 50 = some (.iload_n 2, 51, 0, 0, 0) := rfl
theorem c_98_51 : mj_code 98 51 = some (.invokevirtual 152, 54, 128, 0, 588) := rfl
theorem c_98_54 : mj_code 98 54 = some (.istore_n 3, 55, 0, 0, 0) := rfl
theorem c_98_55 : mj_code 98 55 = some (.iload_n 3, 56, 0, 0, 0) := rfl
theorem c_98_56 : mj_code 98 56 = some (.ifCond .ge 5, 59, 61, 0, 0) := rfl
theorem c_98_59 : mj_code 98 59 = some (.iload_n 3, 60, 0, 0, 0) := rfl
theorem c_98_60 : mj_code 98 60 = some (.ireturn, 61, 0, 0, 0) := rfl
theorem c_98_61 : mj_code 98 61 = some (.aload_n 0, 62, 0, 0, 0) := rfl
theorem c_98_62 : mj_code 98 62 = some (.getfield 31, 65, 11, 3, 463) := rfl
theorem c_98_65 : mj_code 98 65 = some (.aload_n 0, 66, 0, 0, 0) := rfl
theorem c_98_66 : mj_code 98 66 = some (.getfield 149, 69, 11, 15, 475) := rfl
theorem c_98_69 : mj_code 98 69 = some (.aaload, 70, 0, 0, 0) := rfl
theorem c_98_70 : mj_code 98 70 = some (.iload_n 1, 71, 0, 0, 0) := rfl
theorem c_98_71 : mj_code 98 71 = some (.iload_n 3, 72, 0, 0, 0) := rfl
theorem c_98_72 : mj_code 98 72 = some (.aload_n 0, 73, 0, 0, 0) := rfl
theorem c_98_73 : mj_code 98 73 = some (.getfield 10, 76, 11, 0, 460) := rfl
theorem c_98_76 : mj_code 98 76 = some (.invokevirtual 156, 79, 36, 0, 592) := rfl
theorem c_98_79 : mj_code 98 79 = some (.aload_n 0, 80, 0, 0, 0) := rfl
theorem c_98_80 : mj_code 98 80 = some (.dup, 81, 0, 0, 0) := rfl
theorem c_98_81 : mj_code 98 81 = some (.getfield 149, 84, 11, 15, 475) := rfl
theorem c_98_84 : mj_code 98 84 = some (.dup_x1, 85, 0, 0, 0) := rfl
theorem c_98_85 : mj_code 98 85 = some (.iconst 1, 86, 0, 0, 0) := rfl
theorem c_98_86 : mj_code 98 86 = some (.iadd, 87, 0, 0, 0) := rfl
theorem c_98_87 : mj_code 98 87 = some (.putfield 149, 90, 11, 15, 475) := rfl
theorem c_98_90 : mj_code 98 90 = some (.ireturn, 91, 0, 0, 0) := rfl
theorem c_99_0 : mj_code 99 0 = some (.aload_n 0, 1, 0, 0, 0) := rfl
theorem c_99_1 : mj_code 99 1 = some (.iload_n 1, 2, 0, 0, 0) := rfl
theorem c_99_2 : mj_code 99 2 = some (.invokevirtual 159, 5, 125, 0, 609) := rfl
theorem c_99_5 : mj_code 99 5 = some (.ifCond .eq 20, 8, 25, 0, 0) := rfl
theorem c_99_8 : mj_code 99 8 = some (.iload_n 2, 9, 0, 0, 0) := rfl
theorem c_99_9 : mj_code 99 9 = some (.ifCond .lt 16, 12, 25, 0, 0) := rfl
theorem c_99_12 : mj_code 99 12 = some (.iload_n 2, 13, 0, 0, 0) := rfl
theorem c_99_13 : mj_code 99 13 = some (.aload_n 0, 14, 0, 0, 0) := rfl
theorem c_99_14 : mj_code 99 14 = some (.getfield 25, 17, 11, 2, 462) := rfl
theorem c_99_17 : mj_code 99 17 = some (.iload_n 1, 18, 0, 0, 0) := rfl
theorem c_99_18 : mj_code 99 18 = some (.aaload, 19, 0, 0, 0) := rfl
theorem c_99_19 : mj_code 99 19 = some (.getfield 162, 22, 0, 1, 394) := rfl
theorem c_99_22 : mj_code 99 22 = some (.if_icmp .lt 5, 25, 27, 0, 0) := rfl
theorem c_99_25 : mj_code 99 25 = some (.iconst (-1), 26, 0, 0, 0) := rfl
theorem c_99_26 : mj_code 99 26 = some (.ireturn, 27, 0, 0, 0) := rfl
theorem c_99_27 : mj_code 99 27 = some (.aload_n 0, 28, 0, 0, 0) := rfl
theorem c_99_28 : mj_code 99 28 = some (.getfield 25, 31, 11, 2, 462) := rfl
theorem c_99_31 : mj_code 99 31 = some (.iload_n 1, 32, 0, 0, 0) := rfl
theorem c_99_32 : mj_code 99 32 = some (.aaload, 33, 0, 0, 0) := rfl
theorem c_99_33 : mj_code 99 33 = some (.getfield 165, 36, 0, 2, 398) := rfl
theorem c_99_36 : mj_code 99 36 = some (.iload_n 2, 37, 0, 0, 0) := rfl
theorem c_99_37 : mj_code 99 37 = some (.iaload, 38, 0, 0, 0) := rfl
theorem c_99_38 : mj_code 99 38 = some (.ireturn, 39, 0, 0, 0) := rfl
theorem c_100_0 : mj_code 100 0 = some (.aload_n 0, 1, 0, 0, 0) := rfl
theorem c_100_1 : mj_code 100 1 = some (.iload_n 1, 2, 0, 0, 0) := rfl
theorem c_100_2 : mj_code 100 2 = some (.invokevirtual 168, 5, 126, 0, 617) := rfl
theorem c_100_5 : mj_code 100 5 = some (.ifCond .eq 16, 8, 21, 0, 0) := rfl
theorem c_100_8 : mj_code 100 8 = some (.aload_n 0, 9, 0, 0, 0) := rfl
theorem c_100_9 : mj_code 100 9 = some (.getfield 31, 12, 11, 3, 463) := rfl
theorem c_100_12 : mj_code 100 12 = some (.iload_n 1, 13, 0, 0, 0) := rfl
theorem c_100_13 : mj_code 100 13 = some (.aaload, 14, 0, 0, 0) := rfl
theorem c_100_14 : mj_code 100 14 = some (.getfield 171, 17, 4, 1, 361) := rfl
theorem c_100_17 : mj_code 100 17 = some (.i2l, 18, 0, 0, 0) := rfl
theorem c_100_18 : mj_code 100 18 = some (.goto 6, 21, 24, 0, 0) := rfl
theorem c_100_21 : mj_code 100 21 = some (.ldc2_w 174, 24, 18446744073709551615, 0, 621) := rfl
theorem c_100_24 : mj_code 100 24 = some (.lreturn, 25, 0, 0, 0) := rfl
theorem c_101_0 : mj_code 101 0 = some (.aload_n 0, 1, 0, 0, 0) := rfl
theorem c_101_1 : mj_code 101 1 = some (.iload_n 1, 2, 0, 0, 0) := rfl
theorem c_101_2 : mj_code 101 2 = some (.invokevirtual 159, 5, 125, 0, 609) := rfl
theorem c_101_5 : mj_code 101 5 = some (.ifCond .eq 11, 8, 16, 0, 0) := rfl
theorem c_101_8 : mj_code 101 8 = some (.aload_n 0, 9, 0, 0, 0) := rfl
theorem c_101_9 : mj_code 101 9 = some (.iload_n 2, 10, 0, 0, 0) := rfl
theorem c_101_10 : mj_code 101 10 = some (.invokevirtual 168, 13, 126, 0, 617) := rfl
theorem c_101_13 : mj_code 101 13 = some (.ifCond .ne 5, 16, 18, 0, 0) := rfl
theorem c_101_16 : mj_code 101 16 = some (.iconst (-1), 17, 0, 0, 0) := rfl
theorem c_101_17 : mj_code 101 17 = some (.ireturn, 18, 0, 0, 0) := rfl
theorem c_101_18 : mj_code 101 18 = some (.aload_n 0, 19, 0, 0, 0) := rfl
theorem c_101_19 : mj_code 101 19 = some (.getfield 31, 22, 11, 3, 463) := rfl
theorem c_101_22 : mj_code 101 22 = some (.iload_n 2, 23, 0, 0, 0) := rfl
theorem c_101_23 : mj_code 101 23 = some (.aaload, 24, 0, 0, 0) := rfl
theorem c_101_24 : mj_code 101 24 = some (.aload_n 0, 25, 0, 0, 0) := rfl
theorem c_101_25 : mj_code 101 25 = some (.getfield 25, 28, 11, 2, 462) := rfl
theorem c_101_28 : mj_code 101 28 = some (.iload_n 1, 29, 0, 0, 0) := rfl
theorem c_101_29 : mj_code 101 29 = some (.aaload, 30, 0, 0, 0) := rfl
theorem c_101_30 : mj_code 101 30 = some (.aload_n 0, 31, 0, 0, 0) := rfl
theorem c_101_31 : mj_code 101 31 = some (.getfield 10, 34, 11, 0, 460) := rfl
theorem c_101_34 : mj_code 101 34 = some (.aload_n 0, 35, 0, 0, 0) := rfl
theorem c_101_35 : mj_code 101 35 = some (.getfield 89, 38, 11, 12, 472) := rfl
theorem c_101_38 : mj_code 101 38 = some (.invokevirtual 176, 41, 38, 0, 626) := rfl
theorem c_101_41 : mj_code 101 41 = some (.ifCond .eq 7, 44, 48, 0, 0) := rfl
theorem c_101_44 : mj_code 101 44 = some (.iconst 1, 45, 0, 0, 0) := rfl
theorem c_101_45 : mj_code 101 45 = some (.goto 4, 48, 49, 0, 0) := rfl
theorem c_101_48 : mj_code 101 48 = some (.iconst 0, 49, 0, 0, 0) := rfl
theorem c_101_49 : mj_code 101 49 = some (.ireturn, 50, 0, 0, 0) := rfl
theorem c_102_0 : mj_code 102 0 = some (.aload_n 0, 1, 0, 0, 0) := rfl
theorem c_102_1 : mj_code 102 1 = some (.iload_n 1, 2, 0, 0, 0) := rfl
theorem c_102_2 : mj_code 102 2 = some (.invokevirtual 168, 5, 126, 0, 617) := rfl
theorem c_102_5 : mj_code 102 5 = some (.ifCond .ne 7, 8, 12, 0, 0) := rfl
theorem c_102_8 : mj_code 102 8 = some (.ldc2_w 174, 11, 18446744073709551615, 0, 621) := rfl
theorem c_102_11 : mj_code 102 11 = some (.lreturn, 12, 0, 0, 0) := rfl
theorem c_102_12 : mj_code 102 12 = some (.aload_n 0, 13, 0, 0, 0) := rfl
theorem c_102_13 : mj_code 102 13 = some (.getfield 82, 16, 11, 11, 471) := rfl
theorem c_102_16 : mj_code 102 16 = some (.aload_n 0, 17, 0, 0, 0) := rfl
theorem c_102_17 : mj_code 102 17 = some (.getfield 31, 20, 11, 3, 463) := rfl
theorem c_102_20 : mj_code 102 20 = some (.iload_n 1, 21, 0, 0, 0) := rfl
theorem c_102_21 : mj_code 102 21 = some (.aaload, 22, 0, 0, 0) := rfl
theorem c_102_22 : mj_code 102 22 = some (.getfield 180, 25, 4, 0, 359) := rfl
theorem c_102_25 : mj_code 102 25 = some (.aload_n 0, 26, 0, 0, 0) := rfl
theorem c_102_26 : mj_code 102 26 = some (.getfield 31, 29, 11, 3, 463) := rfl
theorem c_102_29 : mj_code 102 29 = some (.iload_n 1, 30, 0, 0, 0) := rfl
theorem c_102_30 : mj_code 102 30 = some (.aaload, 31, 0, 0, 0) := rfl
theorem c_102_31 : mj_code 102 31 = some (.getfield 171, 34, 4, 1, 361) := rfl
theorem c_102_34 : mj_code 102 34 = some (.aload_n 0, 35, 0, 0, 0) := rfl
theorem c_102_35 : mj_code 102 35 = some (.getfield 10, 38, 11, 0, 460) := rfl
theorem c_102_38 : mj_code 102 38 = some (.invokevirtual 156, 41, 36, 0, 592) := rfl
theorem c_102_41 : mj_code 102 41 = some (.iconst 1, 42, 0, 0, 0) := rfl
theorem c_102_42 : mj_code 102 42 = some (.istore_n 2, 43, 0, 0, 0) := rfl
theorem c_102_43 : mj_code 102 43 = some (.iconst 0, 44, 0, 0, 0) := rfl
theorem c_102_44 : mj_code 102 44 = some (.istore_n 3, 45, 0, 0, 0) := rfl
theorem c_102_45 : mj_code 102 45 = some (.iload_n 3, 46, 0, 0, 0) := rfl
theorem c_102_46 : mj_code 102 46 = some (.bipush 27, 48, 0, 0, 0) := rfl
theorem c_102_48 : mj_code 102 48 = some (.if_icmp .gt 58, 51, 106, 0, 0) := rfl
theorem c_102_51 : mj_code 102 51 = some (.iload_n 2, 52, 0, 0, 0) := rfl
theorem c_102_52 : mj_code 102 52 = some (.ifCond .eq 54, 55, 106, 0, 0) := rfl
theorem c_102_55 : mj_code 102 55 = some (.iconst 0, 56, 0, 0, 0) := rfl
theorem c_102_56 : mj_code 102 56 = some (.istore_n 2, 57, 0, 0, 0) := rfl
theorem c_102_57 : mj_code 102 57 = some (.iconst 0, 58, 0, 0, 0) := rfl
theorem c_102_58 : mj_code 102 58 = some (.istore 4, 60, 0, 0, 0) := rfl
theorem c_102_60 : mj_code 102 60 = some (.iload 4, 62, 0, 0, 0) := rfl
theorem c_102_62 : mj_code 102 62 = some (.aload_n 0, 63, 0, 0, 0) := rfl
theorem c_102_63 : mj_code 102 63 = some (.getfield 123, 66, 11, 14, 474) := rfl
theorem c_102_66 : mj_code 102 66 = some (.if_icmp .ge 34, 69, 100, 0, 0) := rfl
theorem c_102_69 : mj_code 102 69 = some (.iload_n 2, 70, 0, 0, 0) := rfl
theorem c_102_70 : mj_code 102 70 = some (.aload_n 0, 71, 0, 0, 0) := rfl
theorem c_102_71 : mj_code 102 71 = some (.getfield 82, 74, 11, 11, 471) := rfl
theorem c_102_74 : mj_code 102 74 = some (.aload_n 0, 75, 0, 0, 0) := rfl
theorem c_102_75 : mj_code 102 75 = some (.getfield 25, 78, 11, 2, 462) := rfl
theorem c_102_78 : mj_code 102 78 = some (.iload 4, 80, 0, 0, 0) := rfl
theorem c_102_80 : mj_code 102 80 = some (.aaload, 81, 0, 0, 0) := rfl
theorem c_102_81 : mj_code 102 81 = some (.aload_n 0, 82, 0, 0, 0) := rfl
theorem c_102_82 : mj_code 102 82 = some (.getfield 10, 85, 11, 0, 460) := rfl
theorem c_102_85 : mj_code 102 85 = some (.aload_n 0, 86, 0, 0, 0) := rfl
theorem c_102_86 : mj_code 102 86 = some (.getfield 89, 89, 11, 12, 472) := rfl
theorem c_102_89 : mj_code 102 89 = some (.invokevirtual 183, 92, 39, 0, 645) := rfl
theorem c_102_92 : mj_code 102 92 = some (.ior, 93, 0, 0, 0) := rfl
theorem c_102_93 : mj_code 102 93 = some (.istore_n 2, 94, 0, 0, 0) := rfl
theorem c_102_94 : mj_code 102 94 = some (.iinc 4 1, 97, 0, 0, 0) := rfl
theorem c_102_97 : mj_code 102 97 = some (.goto (-37), 100, 60, 0, 0) := rfl
theorem c_102_100 : mj_code 102 100 = some (.iinc 3 1, 103, 0, 0, 0) := rfl
theorem c_102_103 : mj_code 102 103 = some (.goto (-58), 106, 45, 0, 0) := rfl
theorem c_102_106 : mj_code 102 106 = some (.aload_n 0, 107, 0, 0, 0) := rfl
theorem c_102_107 : mj_code 102 107 = some (.getfield 82, 110, 11, 11, 471) := rfl
theorem c_102_110 : mj_code 102 110 = some (.aload_n 0, 111, 0, 0, 0) := rfl
theorem c_102_111 : mj_code 102 111 = some (.getfield 10, 114, 11, 0, 460) := rfl
theorem c_102_114 : mj_code 102 114 = some (.invokevirtual 186, 117, 40, 0, 649) := rfl
theorem c_102_117 : mj_code 102 117 = some (.i2l, 118, 0, 0, 0) := rfl
theorem c_102_118 : mj_code 102 118 = some (.lreturn, 119, 0, 0, 0) := rfl
theorem c_103_0 : mj_code 103 0 = some (.iload_n 1, 1, 0, 0, 0) := rfl
theorem c_103_1 : mj_code 103 1 = some (.iconst 1, 2, 0, 0, 0) := rfl
theorem c_103_2 : mj_code 103 2 = some (.if_icmp .eq 10, 5, 12, 0, 0) := rfl
theorem c_103_5 : mj_code 103 5 = some (.iload_n 1, 6, 0, 0, 0) := rfl
theorem c_103_6 : mj_code 103 6 = some (.iconst 2, 7, 0, 0, 0) := rfl
theorem c_103_7 : mj_code 103 7 = some (.if_icmp .eq 5, 10, 12, 0, 0) := rfl
theorem c_103_10 : mj_code 103 10 = some (.iconst (-1), 11, 0, 0, 0) := rfl
theorem c_103_11 : mj_code 103 11 = some (.ireturn, 12, 0, 0, 0) := rfl
theorem c_103_12 : mj_code 103 12 = some (.iconst 1, 13, 0, 0, 0) := rfl
theorem c_103_13 : mj_code 103 13 = some (.aload_n 0, 14, 0, 0, 0) := rfl
theorem c_103_14 : mj_code 103 14 = some (.getfield 10, 17, 11, 0, 460) := rfl
theorem c_103_17 : mj_code 103 17 = some (.iload_n 1, 18, 0, 0, 0) := rfl
theorem c_103_18 : mj_code 103 18 = some (.invokevirtual 131, 21, 12, 0, 571) := rfl
theorem c_103_21 : mj_code 103 21 = some (.ishl, 22, 0, 0, 0) := rfl
theorem c_103_22 : mj_code 103 22 = some (.istore_n 2, 23, 0, 0, 0) := rfl
theorem c_103_23 : mj_code 103 23 = some (.iconst 0, 24, 0, 0, 0) := rfl
theorem c_103_24 : mj_code 103 24 = some (.istore_n 3, 25, 0, 0, 0) := rfl
theorem c_103_25 : mj_code 103 25 = some (.iconst 0, 26, 0, 0, 0) := rfl
theorem c_103_26 : mj_code 103 26 = some (.istore 4, 28, 0, 0, 0) := rfl
theorem c_103_28 : mj_code 103 28 = some (.iload 4, 30, 0, 0, 0) := rfl
theorem c_103_30 : mj_code 103 30 = some (.iload_n 2, 31, 0, 0, 0) := rfl
theorem c_103_31 : mj_code 103 31 = some (.if_icmp .ge 33, 34, 64, 0, 0) := rfl
theorem c_103_34 : mj_code 103 34 = some (.aload_n 0, 35, 0, 0, 0) := rfl
theorem c_103_35 : mj_code 103 35 = some (.getfield 82, 38, 11, 11, 471) := rfl
theorem c_103_38 : mj_code 103 38 = some (.iload_n 1, 39, 0, 0, 0) := rfl
theorem c_103_39 : mj_code 103 39 = some (.iload 4, 41, 0, 0, 0) := rfl
theorem c_103_41 : mj_code 103 41 = some (.aload_n 0, 42, 0, 0, 0) := rfl
theorem c_103_42 : mj_code 103 42 = some (.getfield 10, 45, 11, 0, 460) := rfl
theorem c_103_45 : mj_code 103 45 = some (.invokevirtual 156, 48, 36, 0, 592) := rfl
theorem c_103_48 : mj_code 103 48 = some (.aload_n 0, 49, 0, 0, 0) := rfl
theorem c_103_49 : mj_code 103 49 = some (.invokevirtual 190, 52, 129, 0, 657) := rfl
theorem c_103_52 : mj_code 103 52 = some (.ifCond .eq 6, 55, 58, 0, 0) := rfl
theorem c_103_55 : mj_code 103 55 = some (.iinc 3 1, 58, 0, 0, 0) := rfl
theorem c_103_58 : mj_code 103 58 = some (.iinc 4 1, 61, 0, 0, 0) := rfl
theorem c_103_61 : mj_code 103 61 = some (.goto (-33), 64, 28, 0, 0) := rfl
theorem c_103_64 : mj_code 103 64 = some (.iload_n 3, 65, 0, 0, 0) := rfl
theorem c_103_65 : mj_code 103 65 = some (.ireturn, 66, 0, 0, 0) := rfl
theorem c_104_0 : mj_code 104 0 = some (.aload_n 0, 1, 0, 0, 0) := rfl
theorem c_104_1 : mj_code 104 1 = some (.getfield 10, 4, 11, 0, 460) := rfl
theorem c_104_4 : mj_code 104 4 = some (.iload_n 1, 5, 0, 0, 0) := rfl
theorem c_104_5 : mj_code 104 5 = some (.invokevirtual 194, 8, 13, 0, 665) := rfl
theorem c_104_8 : mj_code 104 8 = some (.ifCond .ne 5, 11, 13, 0, 0) := rfl
theorem c_104_11 : mj_code 104 11 = some (.iconst (-1), 12, 0, 0, 0) := rfl
theorem c_104_12 : mj_code 104 12 = some (.ireturn, 13, 0, 0, 0) := rfl
theorem c_104_13 : mj_code 104 13 = some (.aload_n 0, 14, 0, 0, 0) := rfl
theorem c_104_14 : mj_code 104 14 = some (.iload_n 1, 15, 0, 0, 0) := rfl
theorem c_104_15 : mj_code 104 15 = some (.invokevirtual 197, 18, 130, 0, 669) := rfl
theorem c_104_18 : mj_code 104 18 = some (.astore_n 2, 19, 0, 0, 0) := rfl
theorem c_104_19 : mj_code 104 19 = some (.aload_n 2, 20, 0, 0, 0) := rfl
theorem c_104_20 : mj_code 104 20 = some (.getfield 201, 23, 6, 1, 417) := rfl
theorem c_104_23 : mj_code 104 23 = some (.ifCond .eq 8, 26, 31, 0, 0) := rfl
theorem c_104_26 : mj_code 104 26 = some (.bipush (-8), 28, 0, 0, 0) := rfl
theorem c_104_28 : mj_code 104 28 = some (.goto 7, 31, 35, 0, 0) := rfl
theorem c_104_31 : mj_code 104 31 = some (.aload_n 2, 32, 0, 0, 0) := rfl
theorem c_104_32 : mj_code 104 32 = some (.getfield 205, 35, 6, 2, 420) := rfl
theorem c_104_35 : mj_code 104 35 = some (.ireturn, 36, 0, 0, 0) := rfl
theorem c_105_0 : mj_code 105 0 = some (.aload_n 0, 1, 0, 0, 0) := rfl
theorem c_105_1 : mj_code 105 1 = some (.getfield 10, 4, 11, 0, 460) := rfl
theorem c_105_4 : mj_code 105 4 = some (.iload_n 1, 5, 0, 0, 0) := rfl
theorem c_105_5 : mj_code 105 5 = some (.invokevirtual 194, 8, 13, 0, 665) := rfl
theorem c_105_8 : mj_code 105 8 = some (.ifCond .eq 12, 11, 20, 0, 0) := rfl
theorem c_105_11 : mj_code 105 11 = some (.iload_n 3, 12, 0, 0, 0) := rfl
theorem c_105_12 : mj_code 105 12 = some (.ifCond .eq 10, 15, 22, 0, 0) := rfl
theorem c_105_15 : mj_code 105 15 = some (.iload_n 3, 16, 0, 0, 0) := rfl
theorem c_105_16 : mj_code 105 16 = some (.iconst 1, 17, 0, 0, 0) := rfl
theorem c_105_17 : mj_code 105 17 = some (.if_icmp .eq 5, 20, 22, 0, 0) := rfl
theorem c_105_20 : mj_code 105 20 = some (.iconst (-1), 21, 0, 0, 0) := rfl
theorem c_105_21 : mj_code 105 21 = some (.ireturn, 22, 0, 0, 0) := rfl
theorem c_105_22 : mj_code 105 22 = some (.aload_n 0, 23, 0, 0, 0) := rfl
theorem c_105_23 : mj_code 105 23 = some (.iload_n 1, 24, 0, 0, 0) := rfl
theorem c_105_24 : mj_code 105 24 = some (.invokevirtual 197, 27, 130, 0, 669) := rfl
theorem c_105_27 : mj_code 105 27 = some (.astore 4, 29, 0, 0, 0) := rfl
theorem c_105_29 : mj_code 105 29 = some (.iload_n 2, 30, 0, 0, 0) := rfl
theorem c_105_30 : mj_code 105 30 = some (.ifCond .lt 12, 33, 42, 0, 0) := rfl
theorem c_105_33 : mj_code 105 33 = some (.iload_n 2, 34, 0, 0, 0) := rfl
theorem c_105_34 : mj_code 105 34 = some (.aload 4, 36, 0, 0, 0) := rfl
theorem c_105_36 : mj_code 105 36 = some (.getfield 205, 39, 6, 2, 420) := rfl
theorem c_105_39 : mj_code 105 39 = some (.if_icmp .lt 5, 42, 44, 0, 0) := rfl
theorem c_105_42 : mj_code 105 42 = some (.iconst (-1), 43, 0, 0, 0) := rfl
theorem c_105_43 : mj_code 105 43 = some (.ireturn, 44, 0, 0, 0) := rfl
theorem c_105_44 : mj_code 105 44 = some (.iload_n 3, 45, 0, 0, 0) := rfl
theorem c_105_45 : mj_code 105 45 = some (.ifCond .ne 13, 48, 58, 0, 0) := rfl
theorem c_105_48 : mj_code 105 48 = some (.aload 4, 50, 0, 0, 0) := rfl
theorem c_105_50 : mj_code 105 50 = some (.getfield 208, 53, 6, 3, 423) := rfl
theorem c_105_53 : mj_code 105 53 = some (.iload_n 2, 54, 0, 0, 0) := rfl
theorem c_105_54 : mj_code 105 54 = some (.iaload, 55, 0, 0, 0) := rfl
theorem c_105_55 : mj_code 105 55 = some (.goto 10, 58, 65, 0, 0) := rfl
theorem c_105_58 : mj_code 105 58 = some (.aload 4, 60, 0, 0, 0) := rfl
theorem c_105_60 : mj_code 105 60 = some (.getfield 211, 63, 6, 4, 426) := rfl
theorem c_105_63 : mj_code 105 63 = some (.iload_n 2, 64, 0, 0, 0) := rfl
theorem c_105_64 : mj_code 105 64 = some (.iaload, 65, 0, 0, 0) := rfl
theorem c_105_65 : mj_code 105 65 = some (.ireturn, 66, 0, 0, 0) := rfl
