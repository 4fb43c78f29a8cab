/-! The rows of the code, one by one. -/
theorem c_106_0 : mj_code 106 0 = some (.aload_n 0, 1, 0, 0, 0) := rfl
theorem c_106_1 : mj_code 106 1 = some (.getfield 10, 4, 11, 0, 460) := rfl
theorem c_106_4 : mj_code 106 4 = some (.iload_n 1, 5, 0, 0, 0) := rfl
theorem c_106_5 : mj_code 106 5 = some (.invokevirtual 194, 8, 13, 0, 665) := rfl
theorem c_106_8 : mj_code 106 8 = some (.ifCond .ne 5, 11, 13, 0, 0) := rfl
theorem c_106_11 : mj_code 106 11 = some (.iconst (-1), 12, 0, 0, 0) := rfl
theorem c_106_12 : mj_code 106 12 = some (.ireturn, 13, 0, 0, 0) := rfl
theorem c_106_13 : mj_code 106 13 = some (.aload_n 0, 14, 0, 0, 0) := rfl
theorem c_106_14 : mj_code 106 14 = some (.iload_n 1, 15, 0, 0, 0) := rfl
theorem c_106_15 : mj_code 106 15 = some (.invokevirtual 197, 18, 130, 0, 669) := rfl
theorem c_106_18 : mj_code 106 18 = some (.astore_n 3, 19, 0, 0, 0) := rfl
theorem c_106_19 : mj_code 106 19 = some (.aload_n 3, 20, 0, 0, 0) := rfl
theorem c_106_20 : mj_code 106 20 = some (.getfield 201, 23, 6, 1, 417) := rfl
theorem c_106_23 : mj_code 106 23 = some (.ifCond .eq 6, 26, 29, 0, 0) := rfl
theorem c_106_26 : mj_code 106 26 = some (.bipush (-8), 28, 0, 0, 0) := rfl
theorem c_106_28 : mj_code 106 28 = some (.ireturn, 29, 0, 0, 0) := rfl
theorem c_106_29 : mj_code 106 29 = some (.iload_n 2, 30, 0, 0, 0) := rfl
theorem c_106_30 : mj_code 106 30 = some (.ifCond .lt 15, 33, 45, 0, 0) := rfl
theorem c_106_33 : mj_code 106 33 = some (.iload_n 2, 34, 0, 0, 0) := rfl
theorem c_106_34 : mj_code 106 34 = some (.aload_n 0, 35, 0, 0, 0) := rfl
theorem c_106_35 : mj_code 106 35 = some (.getfield 10, 38, 11, 0, 460) := rfl
theorem c_106_38 : mj_code 106 38 = some (.iload_n 1, 39, 0, 0, 0) := rfl
theorem c_106_39 : mj_code 106 39 = some (.invokevirtual 214, 42, 14, 0, 784) := rfl
theorem c_106_42 : mj_code 106 42 = some (.if_icmp .lt 5, 45, 47, 0, 0) := rfl
theorem c_106_45 : mj_code 106 45 = some (.iconst (-1), 46, 0, 0, 0) := rfl
theorem c_106_46 : mj_code 106 46 = some (.ireturn, 47, 0, 0, 0) := rfl
theorem c_106_47 : mj_code 106 47 = some (.aload_n 3, 48, 0, 0, 0) := rfl
theorem c_106_48 : mj_code 106 48 = some (.iload_n 2, 49, 0, 0, 0) := rfl
theorem c_106_49 : mj_code 106 49 = some (.invokevirtual 216, 52, 47, 0, 785) := rfl
theorem c_106_52 : mj_code 106 52 = some (.ireturn, 53, 0, 0, 0) := rfl
theorem c_107_0 : mj_code 107 0 = some (.aload_n 0, 1, 0, 0, 0) := rfl
theorem c_107_1 : mj_code 107 1 = some (.getfield 10, 4, 11, 0, 460) := rfl
theorem c_107_4 : mj_code 107 4 = some (.iload_n 2, 5, 0, 0, 0) := rfl
theorem c_107_5 : mj_code 107 5 = some (.invokevirtual 194, 8, 13, 0, 665) := rfl
theorem c_107_8 : mj_code 107 8 = some (.ifCond .ne 5, 11, 13, 0, 0) := rfl
theorem c_107_11 : mj_code 107 11 = some (.iconst (-1), 12, 0, 0, 0) := rfl
theorem c_107_12 : mj_code 107 12 = some (.ireturn, 13, 0, 0, 0) := rfl
theorem c_107_13 : mj_code 107 13 = some (.aload_n 0, 14, 0, 0, 0) := rfl
theorem c_107_14 : mj_code 107 14 = some (.iload_n 1, 15, 0, 0, 0) := rfl
theorem c_107_15 : mj_code 107 15 = some (.iload_n 2, 16, 0, 0, 0) := rfl
theorem c_107_16 : mj_code 107 16 = some (.invokevirtual 219, 19, 132, 0, 793) := rfl
theorem c_107_19 : mj_code 107 19 = some (.aload_n 0, 20, 0, 0, 0) := rfl
theorem c_107_20 : mj_code 107 20 = some (.getfield 74, 23, 11, 9, 469) := rfl
theorem c_107_23 : mj_code 107 23 = some (.getfield 223, 26, 3, 1, 347) := rfl
theorem c_107_26 : mj_code 107 26 = some (.ireturn, 27, 0, 0, 0) := rfl
theorem c_108_0 : mj_code 108 0 = some (.aload_n 0, 1, 0, 0, 0) := rfl
theorem c_108_1 : mj_code 108 1 = some (.getfield 10, 4, 11, 0, 460) := rfl
theorem c_108_4 : mj_code 108 4 = some (.iload_n 2, 5, 0, 0, 0) := rfl
theorem c_108_5 : mj_code 108 5 = some (.invokevirtual 194, 8, 13, 0, 665) := rfl
theorem c_108_8 : mj_code 108 8 = some (.ifCond .ne 5, 11, 13, 0, 0) := rfl
theorem c_108_11 : mj_code 108 11 = some (.iconst (-1), 12, 0, 0, 0) := rfl
theorem c_108_12 : mj_code 108 12 = some (.ireturn, 13, 0, 0, 0) := rfl
theorem c_108_13 : mj_code 108 13 = some (.aload_n 0, 14, 0, 0, 0) := rfl
theorem c_108_14 : mj_code 108 14 = some (.iload_n 1, 15, 0, 0, 0) := rfl
theorem c_108_15 : mj_code 108 15 = some (.iload_n 2, 16, 0, 0, 0) := rfl
theorem c_108_16 : mj_code 108 16 = some (.invokevirtual 219, 19, 132, 0, 793) := rfl
theorem c_108_19 : mj_code 108 19 = some (.aload_n 0, 20, 0, 0, 0) := rfl
theorem c_108_20 : mj_code 108 20 = some (.getfield 74, 23, 11, 9, 469) := rfl
theorem c_108_23 : mj_code 108 23 = some (.iload_n 3, 24, 0, 0, 0) := rfl
theorem c_108_24 : mj_code 108 24 = some (.invokevirtual 224, 27, 33, 0, 867) := rfl
theorem c_108_27 : mj_code 108 27 = some (.ireturn, 28, 0, 0, 0) := rfl
theorem c_109_0 : mj_code 109 0 = some (.iconst 0, 1, 0, 0, 0) := rfl
theorem c_109_1 : mj_code 109 1 = some (.istore_n 1, 2, 0, 0, 0) := rfl
theorem c_109_2 : mj_code 109 2 = some (.iconst 1, 3, 0, 0, 0) := rfl
theorem c_109_3 : mj_code 109 3 = some (.istore_n 2, 4, 0, 0, 0) := rfl
theorem c_109_4 : mj_code 109 4 = some (.iload_n 2, 5, 0, 0, 0) := rfl
theorem c_109_5 : mj_code 109 5 = some (.aload_n 0, 6, 0, 0, 0) := rfl
theorem c_109_6 : mj_code 109 6 = some (.getfield 10, 9, 11, 0, 460) := rfl
theorem c_109_9 : mj_code 109 9 = some (.invokevirtual 227, 12, 15, 0, 685) := rfl
theorem c_109_12 : mj_code 109 12 = some (.if_icmp .gt 20, 15, 32, 0, 0) := rfl
theorem c_109_15 : mj_code 109 15 = some (.aload_n 0, 16, 0, 0, 0) := rfl
theorem c_109_16 : mj_code 109 16 = some (.iload_n 2, 17, 0, 0, 0) := rfl
theorem c_109_17 : mj_code 109 17 = some (.invokevirtual 230, 20, 135, 0, 689) := rfl
theorem c_109_20 : mj_code 109 20 = some (.ifCond .eq 6, 23, 26, 0, 0) := rfl
theorem c_109_23 : mj_code 109 23 = some (.iinc 1 1, 26, 0, 0, 0) := rfl
theorem c_109_26 : mj_code 109 26 = some (.iinc 2 1, 29, 0, 0, 0) := rfl
theorem c_109_29 : mj_code 109 29 = some (.goto (-25), 32, 4, 0, 0) := rfl
theorem c_109_32 : mj_code 109 32 = some (.iload_n 1, 33, 0, 0, 0) := rfl
theorem c_109_33 : mj_code 109 33 = some (.ireturn, 34, 0, 0, 0) := rfl
theorem c_110_0 : mj_code 110 0 = some (.iload_n 1, 1, 0, 0, 0) := rfl
theorem c_110_1 : mj_code 110 1 = some (.iconst 1, 2, 0, 0, 0) := rfl
theorem c_110_2 : mj_code 110 2 = some (.if_icmp .lt 14, 5, 16, 0, 0) := rfl
theorem c_110_5 : mj_code 110 5 = some (.iload_n 1, 6, 0, 0, 0) := rfl
theorem c_110_6 : mj_code 110 6 = some (.aload_n 0, 7, 0, 0, 0) := rfl
theorem c_110_7 : mj_code 110 7 = some (.getfield 10, 10, 11, 0, 460) := rfl
theorem c_110_10 : mj_code 110 10 = some (.invokevirtual 227, 13, 15, 0, 685) := rfl
theorem c_110_13 : mj_code 110 13 = some (.if_icmp .le 5, 16, 18, 0, 0) := rfl
theorem c_110_16 : mj_code 110 16 = some (.iconst (-1), 17, 0, 0, 0) := rfl
theorem c_110_17 : mj_code 110 17 = some (.ireturn, 18, 0, 0, 0) := rfl
theorem c_110_18 : mj_code 110 18 = some (.aload_n 0, 19, 0, 0, 0) := rfl
theorem c_110_19 : mj_code 110 19 = some (.iload_n 1, 20, 0, 0, 0) := rfl
theorem c_110_20 : mj_code 110 20 = some (.invokevirtual 233, 23, 136, 0, 681) := rfl
theorem c_110_23 : mj_code 110 23 = some (.ireturn, 24, 0, 0, 0) := rfl
theorem c_111_0 : mj_code 111 0 = some (.aload_n 0, 1, 0, 0, 0) := rfl
theorem c_111_1 : mj_code 111 1 = some (.invokevirtual 236, 4, 137, 0, 893) := rfl
theorem c_111_4 : mj_code 111 4 = some (.astore_n 1, 5, 0, 0, 0) := rfl
theorem c_111_5 : mj_code 111 5 = some (.iconst 0, 6, 0, 0, 0) := rfl
theorem c_111_6 : mj_code 111 6 = some (.istore_n 2, 7, 0, 0, 0) := rfl
theorem c_111_7 : mj_code 111 7 = some (.iconst 0, 8, 0, 0, 0) := rfl
theorem c_111_8 : mj_code 111 8 = some (.istore_n 3, 9, 0, 0, 0) := rfl
theorem c_111_9 : mj_code 111 9 = some (.iload_n 3, 10, 0, 0, 0) := rfl
theorem c_111_10 : mj_code 111 10 = some (.aload_n 1, 11, 0, 0, 0) := rfl
theorem c_111_11 : mj_code 111 11 = some (.arraylength, 12, 0, 0, 0) := rfl
theorem c_111_12 : mj_code 111 12 = some (.if_icmp .ge 22, 15, 34, 0, 0) := rfl
theorem c_111_15 : mj_code 111 15 = some (.aload_n 0, 16, 0, 0, 0) := rfl
theorem c_111_16 : mj_code 111 16 = some (.aload_n 1, 17, 0, 0, 0) := rfl
theorem c_111_17 : mj_code 111 17 = some (.iload_n 3, 18, 0, 0, 0) := rfl
theorem c_111_18 : mj_code 111 18 = some (.iaload, 19, 0, 0, 0) := rfl
theorem c_111_19 : mj_code 111 19 = some (.invokevirtual 240, 22, 138, 0, 901) := rfl
theorem c_111_22 : mj_code 111 22 = some (.ifCond .eq 6, 25, 28, 0, 0) := rfl
theorem c_111_25 : mj_code 111 25 = some (.iinc 2 1, 28, 0, 0, 0) := rfl
theorem c_111_28 : mj_code 111 28 = some (.iinc 3 1, 31, 0, 0, 0) := rfl
theorem c_111_31 : mj_code 111 31 = some (.goto (-22), 34, 9, 0, 0) := rfl
theorem c_111_34 : mj_code 111 34 = some (.iload_n 2, 35, 0, 0, 0) := rfl
theorem c_111_35 : mj_code 111 35 = some (.ireturn, 36, 0, 0, 0) := rfl
theorem c_112_0 : mj_code 112 0 = some (.aload_n 0, 1, 0, 0, 0) := rfl
theorem c_112_1 : mj_code 112 1 = some (.invokevirtual 236, 4, 137, 0, 893) := rfl
theorem c_112_4 : mj_code 112 4 = some (.astore_n 2, 5, 0, 0, 0) := rfl
theorem c_112_5 : mj_code 112 5 = some (.iconst 0, 6, 0, 0, 0) := rfl
theorem c_112_6 : mj_code 112 6 = some (.istore_n 3, 7, 0, 0, 0) := rfl
theorem c_112_7 : mj_code 112 7 = some (.iconst 0, 8, 0, 0, 0) := rfl
theorem c_112_8 : mj_code 112 8 = some (.istore 4, 10, 0, 0, 0) := rfl
theorem c_112_10 : mj_code 112 10 = some (.iload 4, 12, 0, 0, 0) := rfl
theorem c_112_12 : mj_code 112 12 = some (.aload_n 2, 13, 0, 0, 0) := rfl
theorem c_112_13 : mj_code 112 13 = some (.arraylength, 14, 0, 0, 0) := rfl
theorem c_112_14 : mj_code 112 14 = some (.if_icmp .ge 33, 17, 47, 0, 0) := rfl
theorem c_112_17 : mj_code 112 17 = some (.aload_n 0, 18, 0, 0, 0) := rfl
theorem c_112_18 : mj_code 112 18 = some (.aload_n 2, 19, 0, 0, 0) := rfl
theorem c_112_19 : mj_code 112 19 = some (.iload 4, 21, 0, 0, 0) := rfl
theorem c_112_21 : mj_code 112 21 = some (.iaload, 22, 0, 0, 0) := rfl
theorem c_112_22 : mj_code 112 22 = some (.invokevirtual 240, 25, 138, 0, 901) := rfl
theorem c_112_25 : mj_code 112 25 = some (.ifCond .eq 16, 28, 41, 0, 0) := rfl
theorem c_112_28 : mj_code 112 28 = some (.iload_n 3, 29, 0, 0, 0) := rfl
theorem c_112_29 : mj_code 112 29 = some (.iload_n 1, 30, 0, 0, 0) := rfl
theorem c_112_30 : mj_code 112 30 = some (.if_icmp .ne 8, 33, 38, 0, 0) := rfl
theorem c_112_33 : mj_code 112 33 = some (.aload_n 2, 34, 0, 0, 0) := rfl
theorem c_112_34 : mj_code 112 34 = some (.iload 4, 36, 0, 0, 0) := rfl
theorem c_112_36 : mj_code 112 36 = some (.iaload, 37, 0, 0, 0) := rfl
theorem c_112_37 : mj_code 112 37 = some (.ireturn, 38, 0, 0, 0) := rfl
theorem c_112_38 : mj_code 112 38 = some (.iinc 3 1, 41, 0, 0, 0) := rfl
theorem c_112_41 : mj_code 112 41 = some (.iinc 4 1, 44, 0, 0, 0) := rfl
theorem c_112_44 : mj_code 112 44 = some (.goto (-34), 47, 10, 0, 0) := rfl
theorem c_112_47 : mj_code 112 47 = some (.iconst (-1), 48, 0, 0, 0) := rfl
theorem c_112_48 : mj_code 112 48 = some (.ireturn, 49, 0, 0, 0) := rfl
theorem c_113_0 : mj_code 113 0 = some (.aload_n 0, 1, 0, 0, 0) := rfl
theorem c_113_1 : mj_code 113 1 = some (.iload_n 1, 2, 0, 0, 0) := rfl
theorem c_113_2 : mj_code 113 2 = some (.invokevirtual 159, 5, 125, 0, 609) := rfl
theorem c_113_5 : mj_code 113 5 = some (.ifCond .eq 14, 8, 19, 0, 0) := rfl
theorem c_113_8 : mj_code 113 8 = some (.aload_n 0, 9, 0, 0, 0) := rfl
theorem c_113_9 : mj_code 113 9 = some (.getfield 10, 12, 11, 0, 460) := rfl
theorem c_113_12 : mj_code 113 12 = some (.getfield 135, 15, 1, 0, 112) := rfl
theorem c_113_15 : mj_code 113 15 = some (.iconst 3, 16, 0, 0, 0) := rfl
theorem c_113_16 : mj_code 113 16 = some (.if_icmp .ne 5, 19, 21, 0, 0) := rfl
theorem c_113_19 : mj_code 113 19 = some (.iconst (-1), 20, 0, 0, 0) := rfl
theorem c_113_20 : mj_code 113 20 = some (.ireturn, 21, 0, 0, 0) := rfl
theorem c_113_21 : mj_code 113 21 = some (.aload_n 0, 22, 0, 0, 0) := rfl
theorem c_113_22 : mj_code 113 22 = some (.getfield 25, 25, 11, 2, 462) := rfl
theorem c_113_25 : mj_code 113 25 = some (.iload_n 1, 26, 0, 0, 0) := rfl
theorem c_113_26 : mj_code 113 26 = some (.aaload, 27, 0, 0, 0) := rfl
theorem c_113_27 : mj_code 113 27 = some (.invokevirtual 243, 30, 5, 0, 920) := rfl
theorem c_113_30 : mj_code 113 30 = some (.ireturn, 31, 0, 0, 0) := rfl
theorem c_114_0 : mj_code 114 0 = some (.aload_n 0, 1, 0, 0, 0) := rfl
theorem c_114_1 : mj_code 114 1 = some (.getfield 10, 4, 11, 0, 460) := rfl
theorem c_114_4 : mj_code 114 4 = some (.getfield 135, 7, 1, 0, 112) := rfl
theorem c_114_7 : mj_code 114 7 = some (.iconst 3, 8, 0, 0, 0) := rfl
theorem c_114_8 : mj_code 114 8 = some (.if_icmp .ne 5, 11, 13, 0, 0) := rfl
theorem c_114_11 : mj_code 114 11 = some (.iconst (-1), 12, 0, 0, 0) := rfl
theorem c_114_12 : mj_code 114 12 = some (.ireturn, 13, 0, 0, 0) := rfl
theorem c_114_13 : mj_code 114 13 = some (.bipush 31, 15, 0, 0, 0) := rfl
theorem c_114_15 : mj_code 114 15 = some (.istore_n 1, 16, 0, 0, 0) := rfl
theorem c_114_16 : mj_code 114 16 = some (.iconst 0, 17, 0, 0, 0) := rfl
theorem c_114_17 : mj_code 114 17 = some (.istore_n 2, 18, 0, 0, 0) := rfl
theorem c_114_18 : mj_code 114 18 = some (.iload_n 2, 19, 0, 0, 0) := rfl
theorem c_114_19 : mj_code 114 19 = some (.aload_n 0, 20, 0, 0, 0) := rfl
theorem c_114_20 : mj_code 114 20 = some (.getfield 123, 23, 11, 14, 474) := rfl
theorem c_114_23 : mj_code 114 23 = some (.if_icmp .ge 21, 26, 44, 0, 0) := rfl
theorem c_114_26 : mj_code 114 26 = some (.iload_n 1, 27, 0, 0, 0) := rfl
theorem c_114_27 : mj_code 114 27 = some (.aload_n 0, 28, 0, 0, 0) := rfl
theorem c_114_28 : mj_code 114 28 = some (.getfield 25, 31, 11, 2, 462) := rfl
theorem c_114_31 : mj_code 114 31 = some (.iload_n 2, 32, 0, 0, 0) := rfl
theorem c_114_32 : mj_code 114 32 = some (.aaload, 33, 0, 0, 0) := rfl
theorem c_114_33 : mj_code 114 33 = some (.invokevirtual 243, 36, 5, 0, 920) := rfl
theorem c_114_36 : mj_code 114 36 = some (.iand, 37, 0, 0, 0) := rfl
theorem c_114_37 : mj_code 114 37 = some (.istore_n 1, 38, 0, 0, 0) := rfl
theorem c_114_38 : mj_code 114 38 = some (.iinc 2 1, 41, 0, 0, 0) := rfl
theorem c_114_41 : mj_code 114 41 = some (.goto (-23), 44, 18, 0, 0) := rfl
theorem c_114_44 : mj_code 114 44 = some (.iload_n 1, 45, 0, 0, 0) := rfl
theorem c_114_45 : mj_code 114 45 = some (.ifCond .ne 7, 48, 52, 0, 0) := rfl
theorem c_114_48 : mj_code 114 48 = some (.iconst 1, 49, 0, 0, 0) := rfl
theorem c_114_49 : mj_code 114 49 = some (.goto 4, 52, 53, 0, 0) := rfl
theorem c_114_52 : mj_code 114 52 = some (.iconst 0, 53, 0, 0, 0) := rfl
theorem c_114_53 : mj_code 114 53 = some (.ireturn, 54, 0, 0, 0) := rfl
theorem c_115_0 : mj_code 115 0 = some (.iload_n 1, 1, 0, 0, 0) := rfl
theorem c_115_1 : mj_code 115 1 = some (.iconst 1, 2, 0, 0, 0) := rfl
theorem c_115_2 : mj_code 115 2 = some (.if_icmp .lt 9, 5, 11, 0, 0) := rfl
theorem c_115_5 : mj_code 115 5 = some (.iload_n 1, 6, 0, 0, 0) := rfl
theorem c_115_6 : mj_code 115 6 = some (.bipush 8, 8, 0, 0, 0) := rfl
theorem c_115_8 : mj_code 115 8 = some (.if_icmp .le 5, 11, 13, 0, 0) := rfl
theorem c_115_11 : mj_code 115 11 = some (.iconst 0, 12, 0, 0, 0) := rfl
theorem c_115_12 : mj_code 115 12 = some (.ireturn, 13, 0, 0, 0) := rfl
theorem c_115_13 : mj_code 115 13 = some (.aload_n 0, 14, 0, 0, 0) := rfl
theorem c_115_14 : mj_code 115 14 = some (.getfield 51, 17, 11, 6, 466) := rfl
theorem c_115_17 : mj_code 115 17 = some (.iload_n 1, 18, 0, 0, 0) := rfl
theorem c_115_18 : mj_code 115 18 = some (.invokevirtual 246, 21, 74, 0, 456) := rfl
theorem c_115_21 : mj_code 115 21 = some (.aload_n 0, 22, 0, 0, 0) := rfl
theorem c_115_22 : mj_code 115 22 = some (.iconst 0, 23, 0, 0, 0) := rfl
theorem c_115_23 : mj_code 115 23 = some (.putfield 249, 26, 11, 18, 478) := rfl
theorem c_115_26 : mj_code 115 26 = some (.iconst 1, 27, 0, 0, 0) := rfl
theorem c_115_27 : mj_code 115 27 = some (.ireturn, 28, 0, 0, 0) := rfl
theorem c_116_0 : mj_code 116 0 = some (.aload_n 0, 1, 0, 0, 0) := rfl
theorem c_116_1 : mj_code 116 1 = some (.iload_n 1, 2, 0, 0, 0) := rfl
theorem c_116_2 : mj_code 116 2 = some (.invokevirtual 168, 5, 126, 0, 617) := rfl
theorem c_116_5 : mj_code 116 5 = some (.ifCond .ne 6, 8, 11, 0, 0) := rfl
theorem c_116_8 : mj_code 116 8 = some (.bipush (-2), 10, 0, 0, 0) := rfl
theorem c_116_10 : mj_code 116 10 = some (.ireturn, 11, 0, 0, 0) := rfl
theorem c_116_11 : mj_code 116 11 = some (.aload_n 0, 12, 0, 0, 0) := rfl
theorem c_116_12 : mj_code 116 12 = some (.getfield 31, 15, 11, 3, 463) := rfl
theorem c_116_15 : mj_code 116 15 = some (.iload_n 1, 16, 0, 0, 0) := rfl
theorem c_116_16 : mj_code 116 16 = some (.aaload, 17, 0, 0, 0) := rfl
theorem c_116_17 : mj_code 116 17 = some (.getfield 180, 20, 4, 0, 359) := rfl
theorem c_116_20 : mj_code 116 20 = some (.istore 5, 22, 0, 0, 0) := rfl
theorem c_116_22 : mj_code 116 22 = some (.iload 5, 24, 0, 0, 0) := rfl
theorem c_116_24 : mj_code 116 24 = some (.iconst 1, 25, 0, 0, 0) := rfl
theorem c_116_25 : mj_code 116 25 = some (.if_icmp .le 7, 28, 32, 0, 0) := rfl
theorem c_116_28 : mj_code 116 28 = some (.iload_n 3, 29, 0, 0, 0) := rfl
theorem c_116_29 : mj_code 116 29 = some (.goto 4, 32, 33, 0, 0) := rfl
theorem c_116_32 : mj_code 116 32 = some (.iload_n 2, 33, 0, 0, 0) := rfl
theorem c_116_33 : mj_code 116 33 = some (.istore 6, 35, 0, 0, 0) := rfl
theorem c_116_35 : mj_code 116 35 = some (.iload 5, 37, 0, 0, 0) := rfl
theorem c_116_37 : mj_code 116 37 = some (.iconst 2, 38, 0, 0, 0) := rfl
theorem c_116_38 : mj_code 116 38 = some (.if_icmp .le 8, 41, 46, 0, 0) := rfl
theorem c_116_41 : mj_code 116 41 = some (.iload 4, 43, 0, 0, 0) := rfl
theorem c_116_43 : mj_code 116 43 = some (.goto 5, 46, 48, 0, 0) := rfl
theorem c_116_46 : mj_code 116 46 = some (.iload 6, 48, 0, 0, 0) := rfl
theorem c_116_48 : mj_code 116 48 = some (.istore 7, 50, 0, 0, 0) := rfl
theorem c_116_50 : mj_code 116 50 = some (.aload_n 0, 51, 0, 0, 0) := rfl
theorem c_116_51 : mj_code 116 51 = some (.getfield 51, 54, 11, 6, 466) := rfl
theorem c_116_54 : mj_code 116 54 = some (.iload_n 2, 55, 0, 0, 0) := rfl
theorem c_116_55 : mj_code 116 55 = some (.invokevirtual 252, 58, 75, 0, 948) := rfl
theorem c_116_58 : mj_code 116 58 = some (.ifCond .eq 27, 61, 85, 0, 0) := rfl
theorem c_116_61 : mj_code 116 61 = some (.aload_n 0, 62, 0, 0, 0) := rfl
theorem c_116_62 : mj_code 116 62 = some (.getfield 51, 65, 11, 6, 466) := rfl
theorem c_116_65 : mj_code 116 65 = some (.iload 6, 67, 0, 0, 0) := rfl
theorem c_116_67 : mj_code 116 67 = some (.invokevirtual 252, 70, 75, 0, 948) := rfl
theorem c_116_70 : mj_code 116 70 = some (.ifCond .eq 15, 73, 85, 0, 0) := rfl
theorem c_116_73 : mj_code 116 73 = some (.aload_n 0, 74, 0, 0, 0) := rfl
theorem c_116_74 : mj_code 116 74 = some (.getfield 51, 77, 11, 6, 466) := rfl
theorem c_116_77 : mj_code 116 77 = some (.iload 7, 79, 0, 0, 0) := rfl
theorem c_116_79 : mj_code 116 79 = some (.invokevirtual 252, 82, 75, 0, 948) := rfl
theorem c_116_82 : mj_code 116 82 = some (.ifCond .ne 6, 85, 88, 0, 0) := rfl
theorem c_116_85 : mj_code 116 85 = some (.bipush (-2), 87, 0, 0, 0) := rfl
theorem c_116_87 : mj_code 116 87 = some (.ireturn, 88, 0, 0, 0) := rfl
theorem c_116_88 : mj_code 116 88 = some (.aload_n 0, 89, 0, 0, 0) := rfl
theorem c_116_89 : mj_code 116 89 = some (.getfield 51, 92, 11, 6, 466) := rfl
theorem c_116_92 : mj_code 116 92 = some (.getfield 255, 95, 9, 1, 250) := rfl
theorem c_116_95 : mj_code 116 95 = some (.bipush 30, 97, 0, 0, 0) := rfl
theorem c_116_97 : mj_code 116 97 = some (.if_icmp .lt 6, 100, 103, 0, 0) := rfl
theorem c_116_100 : mj_code 116 100 = some (.bipush (-8), 102, 0, 0, 0) := rfl
theorem c_116_102 : mj_code 116 102 = some (.ireturn, 103, 0, 0, 0) := rfl
theorem c_116_103 : mj_code 116 103 = some (.aload_n 0, 104, 0, 0, 0) := rfl
theorem c_116_104 : mj_code 116 104 = some (.iconst 0, 105, 0, 0, 0) := rfl
theorem c_116_105 : mj_code 116 105 = some (.putfield 249, 108, 11, 18, 478) := rfl
theorem c_116_108 : mj_code 116 108 = some (.aload_n 0, 109, 0, 0, 0) := rfl
theorem c_116_109 : mj_code 116 109 = some (.getfield 51, 112, 11, 6, 466) := rfl
theorem c_116_112 : mj_code 116 112 = some (.iload_n 1, 113, 0, 0, 0) := rfl
theorem c_116_113 : mj_code 116 113 = some (.iload_n 2, 114, 0, 0, 0) := rfl
theorem c_116_114 : mj_code 116 114 = some (.iload 6, 116, 0, 0, 0) := rfl
theorem c_116_116 : mj_code 116 116 = some (.iload 7, 118, 0, 0, 0) := rfl
theorem c_116_118 : mj_code 116 118 = some (.invokevirtual 256, 121, 76, 0, 952) := rfl
theorem c_116_121 : mj_code 116 121 = some (.ireturn, 122, 0, 0, 0) := rfl
theorem c_117_0 : mj_code 117 0 = some (.aload_n 0, 1, 0, 0, 0) := rfl
theorem c_117_1 : mj_code 117 1 = some (.getfield 51, 4, 11, 6, 466) := rfl
theorem c_117_4 : mj_code 117 4 = some (.iload_n 1, 5, 0, 0, 0) := rfl
theorem c_117_5 : mj_code 117 5 = some (.invokevirtual 252, 8, 75, 0, 948) := rfl
theorem c_117_8 : mj_code 117 8 = some (.ifCond .ne 5, 11, 13, 0, 0) := rfl
theorem c_117_11 : mj_code 117 11 = some (.iconst (-1), 12, 0, 0, 0) := rfl
theorem c_117_12 : mj_code 117 12 = some (.ireturn, 13, 0, 0, 0) := rfl
theorem c_117_13 : mj_code 117 13 = some (.aload_n 0, 14, 0, 0, 0) := rfl
theorem c_117_14 : mj_code 117 14 = some (.getfield 51, 17, 11, 6, 466) := rfl
theorem c_117_17 : mj_code 117 17 = some (.aload_n 0, 18, 0, 0, 0) := rfl
theorem c_117_18 : mj_code 117 18 = some (.getfield 31, 21, 11, 3, 463) := rfl
theorem c_117_21 : mj_code 117 21 = some (.aload_n 0, 22, 0, 0, 0) := rfl
theorem c_117_22 : mj_code 117 22 = some (.getfield 10, 25, 11, 0, 460) := rfl
theorem c_117_25 : mj_code 117 25 = some (.invokevirtual 260, 28, 78, 0, 960) := rfl
theorem c_117_28 : mj_code 117 28 = some (.aload_n 0, 29, 0, 0, 0) := rfl
theorem c_117_29 : mj_code 117 29 = some (.getfield 51, 32, 11, 6, 466) := rfl
theorem c_117_32 : mj_code 117 32 = some (.getfield 264, 35, 9, 6, 260) := rfl
theorem c_117_35 : mj_code 117 35 = some (.iload_n 1, 36, 0, 0, 0) := rfl
theorem c_117_36 : mj_code 117 36 = some (.iaload, 37, 0, 0, 0) := rfl
theorem c_117_37 : mj_code 117 37 = some (.ireturn, 38, 0, 0, 0) := rfl
theorem c_118_0 : mj_code 118 0 = some (.aload_n 0, 1, 0, 0, 0) := rfl
theorem c_118_1 : mj_code 118 1 = some (.invokevirtual 267, 4, 134, 0, 986) := rfl
theorem c_118_4 : mj_code 118 4 = some (.aload_n 0, 5, 0, 0, 0) := rfl
theorem c_118_5 : mj_code 118 5 = some (.getfield 78, 8, 11, 10, 470) := rfl
theorem c_118_8 : mj_code 118 8 = some (.getfield 223, 11, 3, 1, 347) := rfl
theorem c_118_11 : mj_code 118 11 = some (.ireturn, 12, 0, 0, 0) := rfl
theorem c_119_0 : mj_code 119 0 = some (.aload_n 0, 1, 0, 0, 0) := rfl
theorem c_119_1 : mj_code 119 1 = some (.invokevirtual 267, 4, 134, 0, 986) := rfl
theorem c_119_4 : mj_code 119 4 = some (.aload_n 0, 5, 0, 0, 0) := rfl
theorem c_119_5 : mj_code 119 5 = some (.getfield 78, 8, 11, 10, 470) := rfl
theorem c_119_8 : mj_code 119 8 = some (.iload_n 1, 9, 0, 0, 0) := rfl
theorem c_119_9 : mj_code 119 9 = some (.invokevirtual 224, 12, 33, 0, 867) := rfl
theorem c_119_12 : mj_code 119 12 = some (.ireturn, 13, 0, 0, 0) := rfl
theorem c_120_0 : mj_code 120 0 = some (.iload_n 1, 1, 0, 0, 0) := rfl
theorem c_120_1 : mj_code 120 1 = some (.ifCond .ne 17, 4, 18, 0, 0) := rfl
theorem c_120_4 : mj_code 120 4 = some (.aload_n 0, 5, 0, 0, 0) := rfl
theorem c_120_5 : mj_code 120 5 = some (.getfield 65, 8, 11, 8, 468) := rfl
theorem c_120_8 : mj_code 120 8 = some (.aload_n 0, 9, 0, 0, 0) := rfl
theorem c_120_9 : mj_code 120 9 = some (.getfield 10, 12, 11, 0, 460) := rfl
theorem c_120_12 : mj_code 120 12 = some (.invokevirtual 270, 15, 21, 0, 999) := rfl
theorem c_120_15 : mj_code 120 15 = some (.goto 45, 18, 60, 0, 0) := rfl
theorem c_120_18 : mj_code 120 18 = some (.iload_n 1, 19, 0, 0, 0) := rfl
theorem c_120_19 : mj_code 120 19 = some (.iconst 1, 20, 0, 0, 0) := rfl
theorem c_120_20 : mj_code 120 20 = some (.if_icmp .ne 17, 23, 37, 0, 0) := rfl
theorem c_120_23 : mj_code 120 23 = some (.aload_n 0, 24, 0, 0, 0) := rfl
theorem c_120_24 : mj_code 120 24 = some (.getfield 65, 27, 11, 8, 468) := rfl
theorem c_120_27 : mj_code 120 27 = some (.aload_n 0, 28, 0, 0, 0) := rfl
theorem c_120_28 : mj_code 120 28 = some (.getfield 10, 31, 11, 0, 460) := rfl
theorem c_120_31 : mj_code 120 31 = some (.invokevirtual 274, 34, 22, 0, 1003) := rfl
theorem c_120_34 : mj_code 120 34 = some (.goto 26, 37, 60, 0, 0) := rfl
theorem c_120_37 : mj_code 120 37 = some (.iload_n 1, 38, 0, 0, 0) := rfl
theorem c_120_38 : mj_code 120 38 = some (.iconst 2, 39, 0, 0, 0) := rfl
theorem c_120_39 : mj_code 120 39 = some (.if_icmp .ne 17, 42, 56, 0, 0) := rfl
theorem c_120_42 : mj_code 120 42 = some (.aload_n 0, 43, 0, 0, 0) := rfl
theorem c_120_43 : mj_code 120 43 = some (.getfield 65, 46, 11, 8, 468) := rfl
theorem c_120_46 : mj_code 120 46 = some (.aload_n 0, 47, 0, 0, 0) := rfl
theorem c_120_47 : mj_code 120 47 = some (.getfield 10, 50, 11, 0, 460) := rfl
theorem c_120_50 : mj_code 120 50 = some (.invokevirtual 277, 53, 23, 0, 1007) := rfl
theorem c_120_53 : mj_code 120 53 = some (.goto 7, 56, 60, 0, 0) := rfl
theorem c_120_56 : mj_code 120 56 = some (.ldc2_w 174, 59, 18446744073709551615, 0, 621) := rfl
theorem c_120_59 : mj_code 120 59 = some (.lreturn, 60, 0, 0, 0) := rfl
theorem c_120_60 : mj_code 120 60 = some (.aload_n 0, 61, 0, 0, 0) := rfl
theorem c_120_61 : mj_code 120 61 = some (.getfield 58, 64, 11, 7, 467) := rfl
theorem c_120_64 : mj_code 120 64 = some (.aload_n 0, 65, 0, 0, 0) := rfl
theorem c_120_65 : mj_code 120 65 = some (.getfield 10, 68, 11, 0, 460) := rfl
theorem c_120_68 : mj_code 120 68 = some (.getfield 135, 71, 1, 0, 112) := rfl
theorem c_120_71 : mj_code 120 71 = some (.aload_n 0, 72, 0, 0, 0) := rfl
theorem c_120_72 : mj_code 120 72 = some (.getfield 65, 75, 11, 8, 468) := rfl
theorem c_120_75 : mj_code 120 75 = some (.getfield 280, 78, 2, 2, 319) := rfl
theorem c_120_78 : mj_code 120 78 = some (.invokevirtual 283, 81, 64, 0, 810) := rfl
theorem c_120_81 : mj_code 120 81 = some (.aload_n 0, 82, 0, 0, 0) := rfl
theorem c_120_82 : mj_code 120 82 = some (.aload_n 0, 83, 0, 0, 0) := rfl
theorem c_120_83 : mj_code 120 83 = some (.getfield 51, 86, 11, 6, 466) := rfl
theorem c_120_86 : mj_code 120 86 = some (.invokevirtual 285, 89, 77, 0, 1014) := rfl
theorem c_120_89 : mj_code 120 89 = some (.invokevirtual 288, 92, 133, 0, 816) := rfl
theorem c_120_92 : mj_code 120 92 = some (.aload_n 0, 93, 0, 0, 0) := rfl
theorem c_120_93 : mj_code 120 93 = some (.getfield 58, 96, 11, 7, 467) := rfl
theorem c_120_96 : mj_code 120 96 = some (.invokevirtual 291, 99, 67, 0, 837) := rfl
theorem c_120_99 : mj_code 120 99 = some (.aload_n 0, 100, 0, 0, 0) := rfl
theorem c_120_100 : mj_code 120 100 = some (.getfield 58, 103, 11, 7, 467) := rfl
theorem c_120_103 : mj_code 120 103 = some (.aload_n 0, 104, 0, 0, 0) := rfl
theorem c_120_104 : mj_code 120 104 = some (.getfield 65, 107, 11, 8, 468) := rfl
theorem c_120_107 : mj_code 120 107 = some (.invokevirtual 294, 110, 69, 0, 1018) := rfl
theorem c_120_110 : mj_code 120 110 = some (.ifCond .eq 24, 113, 134, 0, 0) := rfl
theorem c_120_113 : mj_code 120 113 = some (.aload_n 0, 114, 0, 0, 0) := rfl
theorem c_120_114 : mj_code 120 114 = some (.getfield 65, 117, 11, 8, 468) := rfl
theorem c_120_117 : mj_code 120 117 = some (.aload_n 0, 118, 0, 0, 0) := rfl
theorem c_120_118 : mj_code 120 118 = some (.getfield 58, 121, 11, 7, 467) := rfl
theorem c_120_121 : mj_code 120 121 = some (.getfield 298, 124, 8, 0, 283) := rfl
theorem c_120_124 : mj_code 120 124 = some (.aload_n 0, 125, 0, 0, 0) := rfl
theorem c_120_125 : mj_code 120 125 = some (.getfield 10, 128, 11, 0, 460) := rfl
theorem c_120_128 : mj_code 120 128 = some (.invokevirtual 301, 131, 26, 0, 1033) := rfl
theorem c_120_131 : mj_code 120 131 = some (.goto 6, 134, 137, 0, 0) := rfl
theorem c_120_134 : mj_code 120 134 = some (.ldc2_w 305, 137, 18446744073709551609, 0, 1037) := rfl
theorem c_120_137 : mj_code 120 137 = some (.lreturn, 138, 0, 0, 0) := rfl
theorem c_121_0 : mj_code 121 0 = some (.iload_n 1, 1, 0, 0, 0) := rfl
theorem c_121_1 : mj_code 121 1 = some (.tableswitch 81 0 5 #[39, 47, 52, 57, 65, 73], 40, 0, 0, 0) := rfl
theorem c_121_40 : mj_code 121 40 = some (.aload_n 0, 41, 0, 0, 0) := rfl
theorem c_121_41 : mj_code 121 41 = some (.getfield 10, 44, 11, 0, 460) := rfl
theorem c_121_44 : mj_code 121 44 = some (.getfield 135, 47, 1, 0, 112) := rfl
theorem c_121_47 : mj_code 121 47 = some (.ireturn, 48, 0, 0, 0) := rfl
theorem c_121_48 : mj_code 121 48 = some (.aload_n 0, 49, 0, 0, 0) := rfl
theorem c_121_49 : mj_code 121 49 = some (.getfield 123, 52, 11, 14, 474) := rfl
theorem c_121_52 : mj_code 121 52 = some (.ireturn, 53, 0, 0, 0) := rfl
theorem c_121_53 : mj_code 121 53 = some (.aload_n 0, 54, 0, 0, 0) := rfl
theorem c_121_54 : mj_code 121 54 = some (.getfield 149, 57, 11, 15, 475) := rfl
theorem c_121_57 : mj_code 121 57 = some (.ireturn, 58, 0, 0, 0) := rfl
theorem c_121_58 : mj_code 121 58 = some (.aload_n 0, 59, 0, 0, 0) := rfl
theorem c_121_59 : mj_code 121 59 = some (.getfield 51, 62, 11, 6, 466) := rfl
theorem c_121_62 : mj_code 121 62 = some (.getfield 307, 65, 9, 0, 248) := rfl
theorem c_121_65 : mj_code 121 65 = some (.ireturn, 66, 0, 0, 0) := rfl
theorem c_121_66 : mj_code 121 66 = some (.aload_n 0, 67, 0, 0, 0) := rfl
theorem c_121_67 : mj_code 121 67 = some (.getfield 51, 70, 11, 6, 466) := rfl
theorem c_121_70 : mj_code 121 70 = some (.getfield 255, 73, 9, 1, 250) := rfl
theorem c_121_73 : mj_code 121 73 = some (.ireturn, 74, 0, 0, 0) := rfl
theorem c_121_74 : mj_code 121 74 = some (.aload_n 0, 75, 0, 0, 0) := rfl
theorem c_121_75 : mj_code 121 75 = some (.getfield 19, 78, 11, 1, 461) := rfl
theorem c_121_78 : mj_code 121 78 = some (.invokevirtual 310, 81, 90, 0, 1042) := rfl
theorem c_121_81 : mj_code 121 81 = some (.ireturn, 82, 0, 0, 0) := rfl
theorem c_121_82 : mj_code 121 82 = some (.iconst (-1), 83, 0, 0, 0) := rfl
theorem c_121_83 : mj_code 121 83 = some (.ireturn, 84, 0, 0, 0) := rfl
theorem c_122_0 : mj_code 122 0 = some (.aload_n 0, 1, 0, 0, 0) := rfl
theorem c_122_1 : mj_code 122 1 = some (.getfield 10, 4, 11, 0, 460) := rfl
theorem c_122_4 : mj_code 122 4 = some (.iload_n 1, 5, 0, 0, 0) := rfl
theorem c_122_5 : mj_code 122 5 = some (.invokevirtual 313, 8, 11, 0, 443) := rfl
theorem c_122_8 : mj_code 122 8 = some (.aload_n 0, 9, 0, 0, 0) := rfl
theorem c_122_9 : mj_code 122 9 = some (.getfield 89, 12, 11, 12, 472) := rfl
theorem c_122_12 : mj_code 122 12 = some (.iload_n 1, 13, 0, 0, 0) := rfl
theorem c_122_13 : mj_code 122 13 = some (.iload_n 1, 14, 0, 0, 0) := rfl
theorem c_122_14 : mj_code 122 14 = some (.imul, 15, 0, 0, 0) := rfl
theorem c_122_15 : mj_code 122 15 = some (.iload_n 1, 16, 0, 0, 0) := rfl
theorem c_122_16 : mj_code 122 16 = some (.iconst 1, 17, 0, 0, 0) := rfl
theorem c_122_17 : mj_code 122 17 = some (.invokevirtual 315, 20, 44, 0, 447) := rfl
theorem c_122_20 : mj_code 122 20 = some (.aload_n 0, 21, 0, 0, 0) := rfl
theorem c_122_21 : mj_code 122 21 = some (.iconst 0, 22, 0, 0, 0) := rfl
theorem c_122_22 : mj_code 122 22 = some (.putfield 123, 25, 11, 14, 474) := rfl
theorem c_122_25 : mj_code 122 25 = some (.aload_n 0, 26, 0, 0, 0) := rfl
theorem c_122_26 : mj_code 122 26 = some (.iconst 0, 27, 0, 0, 0) := rfl
theorem c_122_27 : mj_code 122 27 = some (.putfield 149, 30, 11, 15, 475) := rfl
theorem c_122_30 : mj_code 122 30 = some (.aload_n 0, 31, 0, 0, 0) := rfl
theorem c_122_31 : mj_code 122 31 = some (.invokevirtual 146, 34, 123, 0, 452) := rfl
theorem c_122_34 : mj_code 122 34 = some (.aload_n 0, 35, 0, 0, 0) := rfl
theorem c_122_35 : mj_code 122 35 = some (.iconst 0, 36, 0, 0, 0) := rfl
theorem c_122_36 : mj_code 122 36 = some (.putfield 318, 39, 11, 17, 477) := rfl
theorem c_122_39 : mj_code 122 39 = some (.aload_n 0, 40, 0, 0, 0) := rfl
theorem c_122_40 : mj_code 122 40 = some (.getfield 51, 43, 11, 6, 466) := rfl
theorem c_122_43 : mj_code 122 43 = some (.iconst 1, 44, 0, 0, 0) := rfl
theorem c_122_44 : mj_code 122 44 = some (.invokevirtual 246, 47, 74, 0, 456) := rfl
theorem c_122_47 : mj_code 122 47 = some (.aload_n 0, 48, 0, 0, 0) := rfl
theorem c_122_48 : mj_code 122 48 = some (.iconst 0, 49, 0, 0, 0) := rfl
theorem c_122_49 : mj_code 122 49 = some (.putfield 249, 52, 11, 18, 478) := rfl
theorem c_122_52 : mj_code 122 52 = some (.return_, 53, 0, 0, 0) := rfl
theorem c_123_0 : mj_code 123 0 = some (.iconst 0, 1, 0, 0, 0) := rfl
theorem c_123_1 : mj_code 123 1 = some (.istore_n 1, 2, 0, 0, 0) := rfl
theorem c_123_2 : mj_code 123 2 = some (.iload_n 1, 3, 0, 0, 0) := rfl
theorem c_123_3 : mj_code 123 3 = some (.iconst 3, 4, 0, 0, 0) := rfl
theorem c_123_4 : mj_code 123 4 = some (.if_icmp .ge 19, 7, 23, 0, 0) := rfl
theorem c_123_7 : mj_code 123 7 = some (.aload_n 0, 8, 0, 0, 0) := rfl
theorem c_123_8 : mj_code 123 8 = some (.getfield 37, 11, 11, 4, 464) := rfl
theorem c_123_11 : mj_code 123 11 = some (.iload_n 1, 12, 0, 0, 0) := rfl
theorem c_123_12 : mj_code 123 12 = some (.aaload, 13, 0, 0, 0) := rfl
theorem c_123_13 : mj_code 123 13 = some (.iconst 0, 14, 0, 0, 0) := rfl
theorem c_123_14 : mj_code 123 14 = some (.putfield 321, 17, 6, 0, 416) := rfl
theorem c_123_17 : mj_code 123 17 = some (.iinc 1 1, 20, 0, 0, 0) := rfl
theorem c_123_20 : mj_code 123 20 = some (.goto (-18), 23, 2, 0, 0) := rfl
theorem c_123_23 : mj_code 123 23 = some (.return_, 24, 0, 0, 0) := rfl
theorem c_124_0 : mj_code 124 0 = some (.iload_n 1, 1, 0, 0, 0) := rfl
theorem c_124_1 : mj_code 124 1 = some (.iconst 1, 2, 0, 0, 0) := rfl
theorem c_124_2 : mj_code 124 2 = some (.if_icmp .lt 12, 5, 14, 0, 0) := rfl
theorem c_124_5 : mj_code 124 5 = some (.iload_n 1, 6, 0, 0, 0) := rfl
theorem c_124_6 : mj_code 124 6 = some (.iconst 3, 7, 0, 0, 0) := rfl
theorem c_124_7 : mj_code 124 7 = some (.if_icmp .gt 7, 10, 14, 0, 0) := rfl
theorem c_124_10 : mj_code 124 10 = some (.iconst 1, 11, 0, 0, 0) := rfl
theorem c_124_11 : mj_code 124 11 = some (.goto 4, 14, 15, 0, 0) := rfl
theorem c_124_14 : mj_code 124 14 = some (.iconst 0, 15, 0, 0, 0) := rfl
theorem c_124_15 : mj_code 124 15 = some (.ireturn, 16, 0, 0, 0) := rfl
theorem c_125_0 : mj_code 125 0 = some (.iload_n 1, 1, 0, 0, 0) := rfl
theorem c_125_1 : mj_code 125 1 = some (.ifCond .lt 15, 4, 16, 0, 0) := rfl
theorem c_125_4 : mj_code 125 4 = some (.iload_n 1, 5, 0, 0, 0) := rfl
theorem c_125_5 : mj_code 125 5 = some (.aload_n 0, 6, 0, 0, 0) := rfl
theorem c_125_6 : mj_code 125 6 = some (.getfield 123, 9, 11, 14, 474) := rfl
theorem c_125_9 : mj_code 125 9 = some (.if_icmp .ge 7, 12, 16, 0, 0) := rfl
theorem c_125_12 : mj_code 125 12 = some (.iconst 1, 13, 0, 0, 0) := rfl
theorem c_125_13 : mj_code 125 13 = some (.goto 4, 16, 17, 0, 0) := rfl
theorem c_125_16 : mj_code 125 16 = some (.iconst 0, 17, 0, 0, 0) := rfl
theorem c_125_17 : mj_code 125 17 = some (.ireturn, 18, 0, 0, 0) := rfl
theorem c_126_0 : mj_code 126 0 = some (.iload_n 1, 1, 0, 0, 0) := rfl
theorem c_126_1 : mj_code 126 1 = some (.ifCond .lt 15, 4, 16, 0, 0) := rfl
theorem c_126_4 : mj_code 126 4 = some (.iload_n 1, 5, 0, 0, 0) := rfl
theorem c_126_5 : mj_code 126 5 = some (.aload_n 0, 6, 0, 0, 0) := rfl
theorem c_126_6 : mj_code 126 6 = some (.getfield 149, 9, 11, 15, 475) := rfl
theorem c_126_9 : mj_code 126 9 = some (.if_icmp .ge 7, 12, 16, 0, 0) := rfl
theorem c_126_12 : mj_code 126 12 = some (.iconst 1, 13, 0, 0, 0) := rfl
theorem c_126_13 : mj_code 126 13 = some (.goto 4, 16, 17, 0, 0) := rfl
theorem c_126_16 : mj_code 126 16 = some (.iconst 0, 17, 0, 0, 0) := rfl
theorem c_126_17 : mj_code 126 17 = some (.ireturn, 18, 0, 0, 0) := rfl
theorem c_127_0 : mj_code 127 0 = some (.iconst 0, 1, 0, 0, 0) := rfl
theorem c_127_1 : mj_code 127 1 = some (.istore_n 1, 2, 0, 0, 0) := rfl
theorem c_127_2 : mj_code 127 2 = some (.iconst 0, 3, 0, 0, 0) := rfl
theorem c_127_3 : mj_code 127 3 = some (.istore_n 2, 4, 0, 0, 0) := rfl
theorem c_127_4 : mj_code 127 4 = some (.iload_n 2, 5, 0, 0, 0) := rfl
theorem c_127_5 : mj_code 127 5 = some (.aload_n 0, 6, 0, 0, 0) := rfl
theorem c_127_6 : mj_code 127 6 = some (.getfield 123, 9, 11, 14, 474) := rfl
theorem c_127_9 : mj_code 127 9 = some (.if_icmp .ge 25, 12, 34, 0, 0) := rfl
theorem c_127_12 : mj_code 127 12 = some (.aload_n 0, 13, 0, 0, 0) := rfl
theorem c_127_13 : mj_code 127 13 = some (.getfield 25, 16, 11, 2, 462) := rfl
theorem c_127_16 : mj_code 127 16 = some (.iload_n 2, 17, 0, 0, 0) := rfl
theorem c_127_17 : mj_code 127 17 = some (.aaload, 18, 0, 0, 0) := rfl
theorem c_127_18 : mj_code 127 18 = some (.getfield 324, 21, 0, 0, 392) := rfl
theorem c_127_21 : mj_code 127 21 = some (.iconst 3, 22, 0, 0, 0) := rfl
theorem c_127_22 : mj_code 127 22 = some (.if_icmp .ne 6, 25, 28, 0, 0) := rfl
theorem c_127_25 : mj_code 127 25 = some (.iinc 1 1, 28, 0, 0, 0) := rfl
theorem c_127_28 : mj_code 127 28 = some (.iinc 2 1, 31, 0, 0, 0) := rfl
theorem c_127_31 : mj_code 127 31 = some (.goto (-27), 34, 4, 0, 0) := rfl
theorem c_127_34 : mj_code 127 34 = some (.iload_n 1, 35, 0, 0, 0) := rfl
theorem c_127_35 : mj_code 127 35 = some (.ireturn, 36, 0, 0, 0) := rfl
theorem c_128_0 : mj_code 128 0 = some (.aload_n 0, 1, 0, 0, 0) := rfl
theorem c_128_1 : mj_code 128 1 = some (.getfield 19, 4, 11, 1, 461) := rfl
theorem c_128_4 : mj_code 128 4 = some (.iload_n 2, 5, 0, 0, 0) := rfl
theorem c_128_5 : mj_code 128 5 = some (.iconst 0, 6, 0, 0, 0) := rfl
theorem c_128_6 : mj_code 128 6 = some (.bipush 27, 8, 0, 0, 0) := rfl
theorem c_128_8 : mj_code 128 8 = some (.invokevirtual 138, 11, 89, 0, 575) := rfl
theorem c_128_11 : mj_code 128 11 = some (.istore_n 3, 12, 0, 0, 0) := rfl
theorem c_128_12 : mj_code 128 12 = some (.iload_n 3, 13, 0, 0, 0) := rfl
theorem c_128_13 : mj_code 128 13 = some (.ifCond .ge 5, 16, 18, 0, 0) := rfl
theorem c_128_16 : mj_code 128 16 = some (.iload_n 3, 17, 0, 0, 0) := rfl
theorem c_128_17 : mj_code 128 17 = some (.ireturn, 18, 0, 0, 0) := rfl
theorem c_128_18 : mj_code 128 18 = some (.iconst 0, 19, 0, 0, 0) := rfl
theorem c_128_19 : mj_code 128 19 = some (.istore 4, 21, 0, 0, 0) := rfl
theorem c_128_21 : mj_code 128 21 = some (.iconst 1, 22, 0, 0, 0) := rfl
theorem c_128_22 : mj_code 128 22 = some (.istore 5, 24, 0, 0, 0) := rfl
theorem c_128_24 : mj_code 128 24 = some (.iconst 0, 25, 0, 0, 0) := rfl
theorem c_128_25 : mj_code 128 25 = some (.istore 6, 27, 0, 0, 0) := rfl
theorem c_128_27 : mj_code 128 27 = some (.iload 6, 29, 0, 0, 0) := rfl
theorem c_128_29 : mj_code 128 29 = some (.iload_n 3, 30, 0, 0, 0) := rfl
theorem c_128_30 : mj_code 128 30 = some (.if_icmp .ge 83, 33, 113, 0, 0) := rfl
theorem c_128_33 : mj_code 128 33 = some (.iconst 0, 34, 0, 0, 0) := rfl
theorem c_128_34 : mj_code 128 34 = some (.istore 7, 36, 0, 0, 0) := rfl
theorem c_128_36 : mj_code 128 36 = some (.iconst 0, 37, 0, 0, 0) := rfl
theorem c_128_37 : mj_code 128 37 = some (.istore 8, 39, 0, 0, 0) := rfl
theorem c_128_39 : mj_code 128 39 = some (.iload 8, 41, 0, 0, 0) := rfl
theorem c_128_41 : mj_code 128 41 = some (.iload_n 1, 42, 0, 0, 0) := rfl
theorem c_128_42 : mj_code 128 42 = some (.if_icmp .ge 56, 45, 98, 0, 0) := rfl
theorem c_128_45 : mj_code 128 45 = some (.aload_n 0, 46, 0, 0, 0) := rfl
theorem c_128_46 : mj_code 128 46 = some (.getfield 19, 49, 11, 1, 461) := rfl
theorem c_128_49 : mj_code 128 49 = some (.iload_n 2, 50, 0, 0, 0) := rfl
theorem c_128_50 : mj_code 128 50 = some (.iload 5, 52, 0, 0, 0) := rfl
theorem c_128_52 : mj_code 128 52 = some (.aload_n 0, 53, 0, 0, 0) := rfl
theorem c_128_53 : mj_code 128 53 = some (.getfield 10, 56, 11, 0, 460) := rfl
theorem c_128_56 : mj_code 128 56 = some (.getfield 135, 59, 1, 0, 112) := rfl
theorem c_128_59 : mj_code 128 59 = some (.iconst 1, 60, 0, 0, 0) := rfl
theorem c_128_60 : mj_code 128 60 = some (.isub, 61, 0, 0, 0) := rfl
theorem c_128_61 : mj_code 128 61 = some (.invokevirtual 138, 64, 89, 0, 575) := rfl
theorem c_128_64 : mj_code 128 64 = some (.istore 9, 66, 0, 0, 0) := rfl
theorem c_128_66 : mj_code 128 66 = some (.iload 9, 68, 0, 0, 0) := rfl
theorem c_128_68 : mj_code 128 68 = some (.ifCond .ge 6, 71, 74, 0, 0) := rfl
theorem c_128_71 : mj_code 128 71 = some (.iload 9, 73, 0, 0, 0) := rfl
theorem c_128_73 : mj_code 128 73 = some (.ireturn, 74, 0, 0, 0) := rfl
theorem c_128_74 : mj_code 128 74 = some (.iload 7, 76, 0, 0, 0) := rfl
theorem c_128_76 : mj_code 128 76 = some (.aload_n 0, 77, 0, 0, 0) := rfl
theorem c_128_77 : mj_code 128 77 = some (.getfield 10, 80, 11, 0, 460) := rfl
theorem c_128_80 : mj_code 128 80 = some (.getfield 135, 83, 1, 0, 112) := rfl
theorem c_128_83 : mj_code 128 83 = some (.imul, 84, 0, 0, 0) := rfl
theorem c_128_84 : mj_code 128 84 = some (.iload 9, 86, 0, 0, 0) := rfl
theorem c_128_86 : mj_code 128 86 = some (.iadd, 87, 0, 0, 0) := rfl
theorem c_128_87 : mj_code 128 87 = some (.istore 7, 89, 0, 0, 0) := rfl
theorem c_128_89 : mj_code 128 89 = some (.iinc 5 1, 92, 0, 0, 0) := rfl
theorem c_128_92 : mj_code 128 92 = some (.iinc 8 1, 95, 0, 0, 0) := rfl
theorem c_128_95 : mj_code 128 95 = some (.goto (-56), 98, 39, 0, 0) := rfl
theorem c_128_98 : mj_code 128 98 = some (.iload 4, 100, 0, 0, 0) := rfl
theorem c_128_100 : mj_code 128 100 = some (.iconst 1, 101, 0, 0, 0) := rfl
theorem c_128_101 : mj_code 128 101 = some (.iload 7, 103, 0, 0, 0) := rfl
theorem c_128_103 : mj_code 128 103 = some (.ishl, 104, 0, 0, 0) := rfl
theorem c_128_104 : mj_code 128 104 = some (.ior, 105, 0, 0, 0) := rfl
theorem c_128_105 : mj_code 128 105 = some (.istore 4, 107, 0, 0, 0) := rfl
theorem c_128_107 : mj_code 128 107 = some (.iinc 6 1, 110, 0, 0, 0) := rfl
theorem c_128_110 : mj_code 128 110 = some (.goto (-83), 113, 27, 0, 0) := rfl
theorem c_128_113 : mj_code 128 113 = some (.iload 4, 115, 0, 0, 0) := rfl
theorem c_128_115 : mj_code 128 115 = some (.ireturn, 116, 0, 0, 0) := rfl
theorem c_129_0 : mj_code 129 0 = some (.iconst 0, 1, 0, 0, 0) := rfl
theorem c_129_1 : mj_code 129 1 = some (.istore_n 1, 2, 0, 0, 0) := rfl
theorem c_129_2 : mj_code 129 2 = some (.iload_n 1, 3, 0, 0, 0) := rfl
theorem c_129_3 : mj_code 129 3 = some (.aload_n 0, 4, 0, 0, 0) := rfl
theorem c_129_4 : mj_code 129 4 = some (.getfield 123, 7, 11, 14, 474) := rfl
theorem c_129_7 : mj_code 129 7 = some (.if_icmp .ge 35, 10, 42, 0, 0) := rfl
theorem c_129_10 : mj_code 129 10 = some (.aload_n 0, 11, 0, 0, 0) := rfl
theorem c_129_11 : mj_code 129 11 = some (.getfield 82, 14, 11, 11, 471) := rfl
theorem c_129_14 : mj_code 129 14 = some (.aload_n 0, 15, 0, 0, 0) := rfl
theorem c_129_15 : mj_code 129 15 = some (.getfield 25, 18, 11, 2, 462) := rfl
theorem c_129_18 : mj_code 129 18 = some (.iload_n 1, 19, 0, 0, 0) := rfl
theorem c_129_19 : mj_code 129 19 = some (.aaload, 20, 0, 0, 0) := rfl
theorem c_129_20 : mj_code 129 20 = some (.aload_n 0, 21, 0, 0, 0) := rfl
theorem c_129_21 : mj_code 129 21 = some (.getfield 10, 24, 11, 0, 460) := rfl
theorem c_129_24 : mj_code 129 24 = some (.aload_n 0, 25, 0, 0, 0) := rfl
theorem c_129_25 : mj_code 129 25 = some (.getfield 89, 28, 11, 12, 472) := rfl
theorem c_129_28 : mj_code 129 28 = some (.invokevirtual 176, 31, 38, 0, 626) := rfl
theorem c_129_31 : mj_code 129 31 = some (.ifCond .ne 5, 34, 36, 0, 0) := rfl
theorem c_129_34 : mj_code 129 34 = some (.iconst 0, 35, 0, 0, 0) := rfl
theorem c_129_35 : mj_code 129 35 = some (.ireturn, 36, 0, 0, 0) := rfl
theorem c_129_36 : mj_code 129 36 = some (.iinc 1 1, 39, 0, 0, 0) := rfl
theorem c_129_39 : mj_code 129 39 = some (.goto (-37), 42, 2, 0, 0) := rfl
theorem c_129_42 : mj_code 129 42 = some (.iconst 1, 43, 0, 0, 0) := rfl
theorem c_129_43 : mj_code 129 43 = some (.ireturn, 44, 0, 0, 0) := rfl
theorem c_130_0 : mj_code 130 0 = some (.aload_n 0, 1, 0, 0, 0) := rfl
theorem c_130_1 : mj_code 130 1 = some (.getfield 37, 4, 11, 4, 464) := rfl
theorem c_130_4 : mj_code 130 4 = some (.iload_n 1, 5, 0, 0, 0) := rfl
theorem c_130_5 : mj_code 130 5 = some (.iconst 1, 6, 0, 0, 0) := rfl
theorem c_130_6 : mj_code 130 6 = some (.isub, 7, 0, 0, 0) := rfl
theorem c_130_7 : mj_code 130 7 = some (.aaload, 8, 0, 0, 0) := rfl
theorem c_130_8 : mj_code 130 8 = some (.astore_n 2, 9, 0, 0, 0) := rfl
theorem c_130_9 : mj_code 130 9 = some (.aload_n 2, 10, 0, 0, 0) := rfl
theorem c_130_10 : mj_code 130 10 = some (.getfield 321, 13, 6, 0, 416) := rfl
theorem c_130_13 : mj_code 130 13 = some (.ifCond .ne 29, 16, 42, 0, 0) := rfl
theorem c_130_16 : mj_code 130 16 = some (.aload_n 0, 17, 0, 0, 0) := rfl
theorem c_130_17 : mj_code 130 17 = some (.getfield 44, 20, 11, 5, 465) := rfl
theorem c_130_20 : mj_code 130 20 = some (.iload_n 1, 21, 0, 0, 0) := rfl
theorem c_130_21 : mj_code 130 21 = some (.aload_n 0, 22, 0, 0, 0) := rfl
theorem c_130_22 : mj_code 130 22 = some (.getfield 10, 25, 11, 0, 460) := rfl
theorem c_130_25 : mj_code 130 25 = some (.aload_n 0, 26, 0, 0, 0) := rfl
theorem c_130_26 : mj_code 130 26 = some (.getfield 25, 29, 11, 2, 462) := rfl
theorem c_130_29 : mj_code 130 29 = some (.aload_n 0, 30, 0, 0, 0) := rfl
theorem c_130_30 : mj_code 130 30 = some (.getfield 123, 33, 11, 14, 474) := rfl
theorem c_130_33 : mj_code 130 33 = some (.aload_n 0, 34, 0, 0, 0) := rfl
theorem c_130_34 : mj_code 130 34 = some (.iload_n 1, 35, 0, 0, 0) := rfl
theorem c_130_35 : mj_code 130 35 = some (.invokevirtual 325, 38, 131, 0, 673) := rfl
theorem c_130_38 : mj_code 130 38 = some (.aload_n 2, 39, 0, 0, 0) := rfl
theorem c_130_39 : mj_code 130 39 = some (.invokevirtual 328, 42, 49, 0, 704) := rfl
theorem c_130_42 : mj_code 130 42 = some (.aload_n 2, 43, 0, 0, 0) := rfl
theorem c_130_43 : mj_code 130 43 = some (.areturn, 44, 0, 0, 0) := rfl
theorem c_131_0 : mj_code 131 0 = some (.aload_n 0, 1, 0, 0, 0) := rfl
theorem c_131_1 : mj_code 131 1 = some (.getfield 10, 4, 11, 0, 460) := rfl
theorem c_131_4 : mj_code 131 4 = some (.iload_n 1, 5, 0, 0, 0) := rfl
theorem c_131_5 : mj_code 131 5 = some (.invokevirtual 131, 8, 12, 0, 571) := rfl
theorem c_131_8 : mj_code 131 8 = some (.istore_n 2, 9, 0, 0, 0) := rfl
theorem c_131_9 : mj_code 131 9 = some (.iconst 1, 10, 0, 0, 0) := rfl
theorem c_131_10 : mj_code 131 10 = some (.istore_n 3, 11, 0, 0, 0) := rfl
theorem c_131_11 : mj_code 131 11 = some (.iconst 0, 12, 0, 0, 0) := rfl
theorem c_131_12 : mj_code 131 12 = some (.istore 4, 14, 0, 0, 0) := rfl
theorem c_131_14 : mj_code 131 14 = some (.iload 4, 16, 0, 0, 0) := rfl
theorem c_131_16 : mj_code 131 16 = some (.iload_n 2, 17, 0, 0, 0) := rfl
theorem c_131_17 : mj_code 131 17 = some (.if_icmp .ge 29, 20, 46, 0, 0) := rfl
theorem c_131_20 : mj_code 131 20 = some (.iload_n 3, 21, 0, 0, 0) := rfl
theorem c_131_21 : mj_code 131 21 = some (.aload_n 0, 22, 0, 0, 0) := rfl
theorem c_131_22 : mj_code 131 22 = some (.aload_n 0, 23, 0, 0, 0) := rfl
theorem c_131_23 : mj_code 131 23 = some (.getfield 10, 26, 11, 0, 460) := rfl
theorem c_131_26 : mj_code 131 26 = some (.iload 4, 28, 0, 0, 0) := rfl
theorem c_131_28 : mj_code 131 28 = some (.iload_n 1, 29, 0, 0, 0) := rfl
theorem c_131_29 : mj_code 131 29 = some (.invokevirtual 332, 32, 16, 0, 677) := rfl
theorem c_131_32 : mj_code 131 32 = some (.invokevirtual 233, 35, 136, 0, 681) := rfl
theorem c_131_35 : mj_code 131 35 = some (.invokestatic 335, 38, 202, 1, 698) := rfl
theorem c_131_38 : mj_code 131 38 = some (.imul, 39, 0, 0, 0) := rfl
theorem c_131_39 : mj_code 131 39 = some (.istore_n 3, 40, 0, 0, 0) := rfl
theorem c_131_40 : mj_code 131 40 = some (.iinc 4 1, 43, 0, 0, 0) := rfl
theorem c_131_43 : mj_code 131 43 = some (.goto (-29), 46, 14, 0, 0) := rfl
theorem c_131_46 : mj_code 131 46 = some (.iload_n 3, 47, 0, 0, 0) := rfl
theorem c_131_47 : mj_code 131 47 = some (.ireturn, 48, 0, 0, 0) := rfl
theorem c_132_0 : mj_code 132 0 = some (.iload_n 1, 1, 0, 0, 0) := rfl
theorem c_132_1 : mj_code 132 1 = some (.iconst 1, 2, 0, 0, 0) := rfl
theorem c_132_2 : mj_code 132 2 = some (.aload_n 0, 3, 0, 0, 0) := rfl
theorem c_132_3 : mj_code 132 3 = some (.getfield 149, 6, 11, 15, 475) := rfl
theorem c_132_6 : mj_code 132 6 = some (.ishl, 7, 0, 0, 0) := rfl
theorem c_132_7 : mj_code 132 7 = some (.iconst 1, 8, 0, 0, 0) := rfl
theorem c_132_8 : mj_code 132 8 = some (.isub, 9, 0, 0, 0) := rfl
theorem c_132_9 : mj_code 132 9 = some (.iand, 10, 0, 0, 0) := rfl
theorem c_132_10 : mj_code 132 10 = some (.istore_n 3, 11, 0, 0, 0) := rfl
theorem c_132_11 : mj_code 132 11 = some (.aload_n 0, 12, 0, 0, 0) := rfl
theorem c_132_12 : mj_code 132 12 = some (.getfield 318, 15, 11, 17, 477) := rfl
theorem c_132_15 : mj_code 132 15 = some (.iload_n 2, 16, 0, 0, 0) := rfl
theorem c_132_16 : mj_code 132 16 = some (.if_icmp .ne 12, 19, 28, 0, 0) := rfl
theorem c_132_19 : mj_code 132 19 = some (.aload_n 0, 20, 0, 0, 0) := rfl
theorem c_132_20 : mj_code 132 20 = some (.getfield 340, 23, 11, 16, 476) := rfl
theorem c_132_23 : mj_code 132 23 = some (.iload_n 3, 24, 0, 0, 0) := rfl
theorem c_132_24 : mj_code 132 24 = some (.if_icmp .ne 4, 27, 28, 0, 0) := rfl
theorem c_132_27 : mj_code 132 27 = some (.return_, 28, 0, 0, 0) := rfl
theorem c_132_28 : mj_code 132 28 = some (.aload_n 0, 29, 0, 0, 0) := rfl
theorem c_132_29 : mj_code 132 29 = some (.getfield 65, 32, 11, 8, 468) := rfl
theorem c_132_32 : mj_code 132 32 = some (.iload_n 2, 33, 0, 0, 0) := rfl
theorem c_132_33 : mj_code 132 33 = some (.aload_n 0, 34, 0, 0, 0) := rfl
theorem c_132_34 : mj_code 132 34 = some (.getfield 10, 37, 11, 0, 460) := rfl
theorem c_132_37 : mj_code 132 37 = some (.invokevirtual 343, 40, 20, 0, 797) := rfl
theorem c_132_40 : mj_code 132 40 = some (.aload_n 0, 41, 0, 0, 0) := rfl
theorem c_132_41 : mj_code 132 41 = some (.getfield 58, 44, 11, 7, 467) := rfl
theorem c_132_44 : mj_code 132 44 = some (.aload_n 0, 45, 0, 0, 0) := rfl
theorem c_132_45 : mj_code 132 45 = some (.getfield 10, 48, 11, 0, 460) := rfl
theorem c_132_48 : mj_code 132 48 = some (.getfield 135, 51, 1, 0, 112) := rfl
theorem c_132_51 : mj_code 132 51 = some (.aload_n 0, 52, 0, 0, 0) := rfl
theorem c_132_52 : mj_code 132 52 = some (.getfield 65, 55, 11, 8, 468) := rfl
theorem c_132_55 : mj_code 132 55 = some (.getfield 280, 58, 2, 2, 319) := rfl
theorem c_132_58 : mj_code 132 58 = some (.invokevirtual 283, 61, 64, 0, 810) := rfl
theorem c_132_61 : mj_code 132 61 = some (.aload_n 0, 62, 0, 0, 0) := rfl
theorem c_132_62 : mj_code 132 62 = some (.iload_n 3, 63, 0, 0, 0) := rfl
theorem c_132_63 : mj_code 132 63 = some (.invokevirtual 288, 66, 133, 0, 816) := rfl
theorem c_132_66 : mj_code 132 66 = some (.aload_n 0, 67, 0, 0, 0) := rfl
theorem c_132_67 : mj_code 132 67 = some (.getfield 58, 70, 11, 7, 467) := rfl
theorem c_132_70 : mj_code 132 70 = some (.invokevirtual 291, 73, 67, 0, 837) := rfl
theorem c_132_73 : mj_code 132 73 = some (.aload_n 0, 74, 0, 0, 0) := rfl
theorem c_132_74 : mj_code 132 74 = some (.getfield 58, 77, 11, 7, 467) := rfl
theorem c_132_77 : mj_code 132 77 = some (.aload_n 0, 78, 0, 0, 0) := rfl
theorem c_132_78 : mj_code 132 78 = some (.getfield 74, 81, 11, 9, 469) := rfl
theorem c_132_81 : mj_code 132 81 = some (.invokevirtual 347, 84, 68, 0, 841) := rfl
theorem c_132_84 : mj_code 132 84 = some (.aload_n 0, 85, 0, 0, 0) := rfl
theorem c_132_85 : mj_code 132 85 = some (.iload_n 2, 86, 0, 0, 0) := rfl
theorem c_132_86 : mj_code 132 86 = some (.putfield 318, 89, 11, 17, 477) := rfl
theorem c_132_89 : mj_code 132 89 = some (.aload_n 0, 90, 0, 0, 0) := rfl
theorem c_132_90 : mj_code 132 90 = some (.iload_n 3, 91, 0, 0, 0) := rfl
theorem c_132_91 : mj_code 132 91 = some (.putfield 340, 94, 11, 16, 476) := rfl
theorem c_132_94 : mj_code 132 94 = some (.return_, 95, 0, 0, 0) := rfl
theorem c_133_0 : mj_code 133 0 = some (.iconst 0, 1, 0, 0, 0) := rfl
theorem c_133_1 : mj_code 133 1 = some (.istore_n 2, 2, 0, 0, 0) := rfl
theorem c_133_2 : mj_code 133 2 = some (.iload_n 2, 3, 0, 0, 0) := rfl
theorem c_133_3 : mj_code 133 3 = some (.aload_n 0, 4, 0, 0, 0) := rfl
theorem c_133_4 : mj_code 133 4 = some (.getfield 149, 7, 11, 15, 475) := rfl
theorem c_133_7 : mj_code 133 7 = some (.if_icmp .ge 38, 10, 45, 0, 0) := rfl
theorem c_133_10 : mj_code 133 10 = some (.iload_n 1, 11, 0, 0, 0) := rfl
theorem c_133_11 : mj_code 133 11 = some (.iload_n 2, 12, 0, 0, 0) := rfl
theorem c_133_12 : mj_code 133 12 = some (.ishr, 13, 0, 0, 0) := rfl
theorem c_133_13 : mj_code 133 13 = some (.iconst 1, 14, 0, 0, 0) := rfl
theorem c_133_14 : mj_code 133 14 = some (.iand, 15, 0, 0, 0) := rfl
theorem c_133_15 : mj_code 133 15 = some (.ifCond .eq 24, 18, 39, 0, 0) := rfl
theorem c_133_18 : mj_code 133 18 = some (.aload_n 0, 19, 0, 0, 0) := rfl
theorem c_133_19 : mj_code 133 19 = some (.getfield 58, 22, 11, 7, 467) := rfl
theorem c_133_22 : mj_code 133 22 = some (.aload_n 0, 23, 0, 0, 0) := rfl
theorem c_133_23 : mj_code 133 23 = some (.getfield 65, 26, 11, 8, 468) := rfl
theorem c_133_26 : mj_code 133 26 = some (.aload_n 0, 27, 0, 0, 0) := rfl
theorem c_133_27 : mj_code 133 27 = some (.getfield 31, 30, 11, 3, 463) := rfl
theorem c_133_30 : mj_code 133 30 = some (.iload_n 2, 31, 0, 0, 0) := rfl
theorem c_133_31 : mj_code 133 31 = some (.aaload, 32, 0, 0, 0) := rfl
theorem c_133_32 : mj_code 133 32 = some (.aload_n 0, 33, 0, 0, 0) := rfl
theorem c_133_33 : mj_code 133 33 = some (.getfield 10, 36, 11, 0, 460) := rfl
theorem c_133_36 : mj_code 133 36 = some (.invokevirtual 351, 39, 66, 0, 820) := rfl
theorem c_133_39 : mj_code 133 39 = some (.iinc 2 1, 42, 0, 0, 0) := rfl
theorem c_133_42 : mj_code 133 42 = some (.goto (-40), 45, 2, 0, 0) := rfl
theorem c_133_45 : mj_code 133 45 = some (.return_, 46, 0, 0, 0) := rfl
theorem c_134_0 : mj_code 134 0 = some (.aload_n 0, 1, 0, 0, 0) := rfl
theorem c_134_1 : mj_code 134 1 = some (.getfield 249, 4, 11, 18, 478) := rfl
theorem c_134_4 : mj_code 134 4 = some (.ifCond .eq 4, 7, 8, 0, 0) := rfl
theorem c_134_7 : mj_code 134 7 = some (.return_, 8, 0, 0, 0) := rfl
theorem c_134_8 : mj_code 134 8 = some (.aload_n 0, 9, 0, 0, 0) := rfl
theorem c_134_9 : mj_code 134 9 = some (.getfield 58, 12, 11, 7, 467) := rfl
theorem c_134_12 : mj_code 134 12 = some (.aload_n 0, 13, 0, 0, 0) := rfl
theorem c_134_13 : mj_code 134 13 = some (.getfield 10, 16, 11, 0, 460) := rfl
theorem c_134_16 : mj_code 134 16 = some (.getfield 135, 19, 1, 0, 112) := rfl
theorem c_134_19 : mj_code 134 19 = some (.aload_n 0, 20, 0, 0, 0) := rfl
theorem c_134_20 : mj_code 134 20 = some (.getfield 51, 23, 11, 6, 466) := rfl
theorem c_134_23 : mj_code 134 23 = some (.getfield 307, 26, 9, 0, 248) := rfl
theorem c_134_26 : mj_code 134 26 = some (.invokevirtual 283, 29, 64, 0, 810) := rfl
theorem c_134_29 : mj_code 134 29 = some (.iconst 0, 30, 0, 0, 0) := rfl
theorem c_134_30 : mj_code 134 30 = some (.istore_n 1, 31, 0, 0, 0) := rfl
theorem c_134_31 : mj_code 134 31 = some (.iload_n 1, 32, 0, 0, 0) := rfl
theorem c_134_32 : mj_code 134 32 = some (.aload_n 0, 33, 0, 0, 0) := rfl
theorem c_134_33 : mj_code 134 33 = some (.getfield 51, 36, 11, 6, 466) := rfl
theorem c_134_36 : mj_code 134 36 = some (.getfield 255, 39, 9, 1, 250) := rfl
theorem c_134_39 : mj_code 134 39 = some (.if_icmp .ge 60, 42, 99, 0, 0) := rfl
theorem c_134_42 : mj_code 134 42 = some (.aload_n 0, 43, 0, 0, 0) := rfl
theorem c_134_43 : mj_code 134 43 = some (.getfield 58, 46, 11, 7, 467) := rfl
theorem c_134_46 : mj_code 134 46 = some (.aload_n 0, 47, 0, 0, 0) := rfl
theorem c_134_47 : mj_code 134 47 = some (.getfield 51, 50, 11, 6, 466) := rfl
theorem c_134_50 : mj_code 134 50 = some (.getfield 355, 53, 9, 3, 254) := rfl
theorem c_134_53 : mj_code 134 53 = some (.iload_n 1, 54, 0, 0, 0) := rfl
theorem c_134_54 : mj_code 134 54 = some (.iaload, 55, 0, 0, 0) := rfl
theorem c_134_55 : mj_code 134 55 = some (.aload_n 0, 56, 0, 0, 0) := rfl
theorem c_134_56 : mj_code 134 56 = some (.getfield 51, 59, 11, 6, 466) := rfl
theorem c_134_59 : mj_code 134 59 = some (.getfield 358, 62, 9, 4, 256) := rfl
theorem c_134_62 : mj_code 134 62 = some (.iload_n 1, 63, 0, 0, 0) := rfl
theorem c_134_63 : mj_code 134 63 = some (.iaload, 64, 0, 0, 0) := rfl
theorem c_134_64 : mj_code 134 64 = some (.aload_n 0, 65, 0, 0, 0) := rfl
theorem c_134_65 : mj_code 134 65 = some (.getfield 51, 68, 11, 6, 466) := rfl
theorem c_134_68 : mj_code 134 68 = some (.getfield 361, 71, 9, 5, 258) := rfl
theorem c_134_71 : mj_code 134 71 = some (.iload_n 1, 72, 0, 0, 0) := rfl
theorem c_134_72 : mj_code 134 72 = some (.iaload, 73, 0, 0, 0) := rfl
theorem c_134_73 : mj_code 134 73 = some (.aload_n 0, 74, 0, 0, 0) := rfl
theorem c_134_74 : mj_code 134 74 = some (.getfield 31, 77, 11, 3, 463) := rfl
theorem c_134_77 : mj_code 134 77 = some (.aload_n 0, 78, 0, 0, 0) := rfl
theorem c_134_78 : mj_code 134 78 = some (.getfield 51, 81, 11, 6, 466) := rfl
theorem c_134_81 : mj_code 134 81 = some (.getfield 364, 84, 9, 2, 252) := rfl
theorem c_134_84 : mj_code 134 84 = some (.iload_n 1, 85, 0, 0, 0) := rfl
theorem c_134_85 : mj_code 134 85 = some (.iaload, 86, 0, 0, 0) := rfl
theorem c_134_86 : mj_code 134 86 = some (.aaload, 87, 0, 0, 0) := rfl
theorem c_134_87 : mj_code 134 87 = some (.getfield 367, 90, 4, 2, 364) := rfl
theorem c_134_90 : mj_code 134 90 = some (.invokevirtual 370, 93, 65, 0, 990) := rfl
theorem c_134_93 : mj_code 134 93 = some (.iinc 1 1, 96, 0, 0, 0) := rfl
theorem c_134_96 : mj_code 134 96 = some (.goto (-65), 99, 31, 0, 0) := rfl
theorem c_134_99 : mj_code 134 99 = some (.aload_n 0, 100, 0, 0, 0) := rfl
theorem c_134_100 : mj_code 134 100 = some (.getfield 58, 103, 11, 7, 467) := rfl
theorem c_134_103 : mj_code 134 103 = some (.invokevirtual 291, 106, 67, 0, 837) := rfl
theorem c_134_106 : mj_code 134 106 = some (.aload_n 0, 107, 0, 0, 0) := rfl
theorem c_134_107 : mj_code 134 107 = some (.getfield 58, 110, 11, 7, 467) := rfl
theorem c_134_110 : mj_code 134 110 = some (.aload_n 0, 111, 0, 0, 0) := rfl
theorem c_134_111 : mj_code 134 111 = some (.getfield 78, 114, 11, 10, 470) := rfl
theorem c_134_114 : mj_code 134 114 = some (.invokevirtual 347, 117, 68, 0, 841) := rfl
theorem c_134_117 : mj_code 134 117 = some (.aload_n 0, 118, 0, 0, 0) := rfl
theorem c_134_118 : mj_code 134 118 = some (.iconst 1, 119, 0, 0, 0) := rfl
theorem c_134_119 : mj_code 134 119 = some (.putfield 249, 122, 11, 18, 478) := rfl
theorem c_134_122 : mj_code 134 122 = some (.return_, 123, 0, 0, 0) := rfl
theorem c_135_0 : mj_code 135 0 = some (.iconst 0, 1, 0, 0, 0) := rfl
theorem c_135_1 : mj_code 135 1 = some (.istore_n 2, 2, 0, 0, 0) := rfl
theorem c_135_2 : mj_code 135 2 = some (.iload_n 2, 3, 0, 0, 0) := rfl
theorem c_135_3 : mj_code 135 3 = some (.aload_n 0, 4, 0, 0, 0) := rfl
theorem c_135_4 : mj_code 135 4 = some (.getfield 123, 7, 11, 14, 474) := rfl
theorem c_135_7 : mj_code 135 7 = some (.if_icmp .ge 28, 10, 35, 0, 0) := rfl
theorem c_135_10 : mj_code 135 10 = some (.aload_n 0, 11, 0, 0, 0) := rfl
theorem c_135_11 : mj_code 135 11 = some (.getfield 25, 14, 11, 2, 462) := rfl
theorem c_135_14 : mj_code 135 14 = some (.iload_n 2, 15, 0, 0, 0) := rfl
theorem c_135_15 : mj_code 135 15 = some (.aaload, 16, 0, 0, 0) := rfl
theorem c_135_16 : mj_code 135 16 = some (.iload_n 1, 17, 0, 0, 0) := rfl
theorem c_135_17 : mj_code 135 17 = some (.aload_n 0, 18, 0, 0, 0) := rfl
theorem c_135_18 : mj_code 135 18 = some (.getfield 10, 21, 11, 0, 460) := rfl
theorem c_135_21 : mj_code 135 21 = some (.invokevirtual 374, 24, 3, 0, 693) := rfl
theorem c_135_24 : mj_code 135 24 = some (.ifCond .ne 5, 27, 29, 0, 0) := rfl
theorem c_135_27 : mj_code 135 27 = some (.iconst 0, 28, 0, 0, 0) := rfl
theorem c_135_28 : mj_code 135 28 = some (.ireturn, 29, 0, 0, 0) := rfl
theorem c_135_29 : mj_code 135 29 = some (.iinc 2 1, 32, 0, 0, 0) := rfl
theorem c_135_32 : mj_code 135 32 = some (.goto (-30), 35, 2, 0, 0) := rfl
theorem c_135_35 : mj_code 135 35 = some (.iconst 1, 36, 0, 0, 0) := rfl
theorem c_135_36 : mj_code 135 36 = some (.ireturn, 37, 0, 0, 0) := rfl
theorem c_136_0 : mj_code 136 0 = some (.aload_n 0, 1, 0, 0, 0) := rfl
theorem c_136_1 : mj_code 136 1 = some (.getfield 10, 4, 11, 0, 460) := rfl
theorem c_136_4 : mj_code 136 4 = some (.invokevirtual 227, 7, 15, 0, 685) := rfl
theorem c_136_7 : mj_code 136 7 = some (.istore_n 2, 8, 0, 0, 0) := rfl
theorem c_136_8 : mj_code 136 8 = some (.iload_n 1, 9, 0, 0, 0) := rfl
theorem c_136_9 : mj_code 136 9 = some (.istore_n 3, 10, 0, 0, 0) := rfl
theorem c_136_10 : mj_code 136 10 = some (.iload_n 3, 11, 0, 0, 0) := rfl
theorem c_136_11 : mj_code 136 11 = some (.iload_n 2, 12, 0, 0, 0) := rfl
theorem c_136_12 : mj_code 136 12 = some (.if_icmp .ge 26, 15, 38, 0, 0) := rfl
theorem c_136_15 : mj_code 136 15 = some (.iload_n 3, 16, 0, 0, 0) := rfl
theorem c_136_16 : mj_code 136 16 = some (.iload_n 1, 17, 0, 0, 0) := rfl
theorem c_136_17 : mj_code 136 17 = some (.iand, 18, 0, 0, 0) := rfl
theorem c_136_18 : mj_code 136 18 = some (.iload_n 1, 19, 0, 0, 0) := rfl
theorem c_136_19 : mj_code 136 19 = some (.if_icmp .ne 13, 22, 32, 0, 0) := rfl
theorem c_136_22 : mj_code 136 22 = some (.aload_n 0, 23, 0, 0, 0) := rfl
theorem c_136_23 : mj_code 136 23 = some (.iload_n 3, 24, 0, 0, 0) := rfl
theorem c_136_24 : mj_code 136 24 = some (.invokevirtual 230, 27, 135, 0, 689) := rfl
theorem c_136_27 : mj_code 136 27 = some (.ifCond .eq 5, 30, 32, 0, 0) := rfl
theorem c_136_30 : mj_code 136 30 = some (.iload_n 3, 31, 0, 0, 0) := rfl
theorem c_136_31 : mj_code 136 31 = some (.ireturn, 32, 0, 0, 0) := rfl
theorem c_136_32 : mj_code 136 32 = some (.iinc 3 1, 35, 0, 0, 0) := rfl
theorem c_136_35 : mj_code 136 35 = some (.goto (-25), 38, 10, 0, 0) := rfl
theorem c_136_38 : mj_code 136 38 = some (.iload_n 2, 39, 0, 0, 0) := rfl
theorem c_136_39 : mj_code 136 39 = some (.ireturn, 40, 0, 0, 0) := rfl
theorem c_137_0 : mj_code 137 0 = some (.aload_n 0, 1, 0, 0, 0) := rfl
theorem c_137_1 : mj_code 137 1 = some (.getfield 10, 4, 11, 0, 460) := rfl
theorem c_137_4 : mj_code 137 4 = some (.getfield 135, 7, 1, 0, 112) := rfl
theorem c_137_7 : mj_code 137 7 = some (.iconst 2, 8, 0, 0, 0) := rfl
theorem c_137_8 : mj_code 137 8 = some (.if_icmp .ne 9, 11, 17, 0, 0) := rfl
theorem c_137_11 : mj_code 137 11 = some (.getstatic 378, 14, 0, 0, 897) := rfl
theorem c_137_14 : mj_code 137 14 = some (.goto 6, 17, 20, 0, 0) := rfl
theorem c_137_17 : mj_code 137 17 = some (.getstatic 381, 20, 1, 0, 899) := rfl
theorem c_137_20 : mj_code 137 20 = some (.areturn, 21, 0, 0, 0) := rfl
theorem c_138_0 : mj_code 138 0 = some (.iconst 0, 1, 0, 0, 0) := rfl
theorem c_138_1 : mj_code 138 1 = some (.istore_n 2, 2, 0, 0, 0) := rfl
theorem c_138_2 : mj_code 138 2 = some (.iload_n 2, 3, 0, 0, 0) := rfl
theorem c_138_3 : mj_code 138 3 = some (.aload_n 0, 4, 0, 0, 0) := rfl
theorem c_138_4 : mj_code 138 4 = some (.getfield 123, 7, 11, 14, 474) := rfl
theorem c_138_7 : mj_code 138 7 = some (.if_icmp .ge 28, 10, 35, 0, 0) := rfl
theorem c_138_10 : mj_code 138 10 = some (.aload_n 0, 11, 0, 0, 0) := rfl
theorem c_138_11 : mj_code 138 11 = some (.getfield 25, 14, 11, 2, 462) := rfl
theorem c_138_14 : mj_code 138 14 = some (.iload_n 2, 15, 0, 0, 0) := rfl
theorem c_138_15 : mj_code 138 15 = some (.aaload, 16, 0, 0, 0) := rfl
theorem c_138_16 : mj_code 138 16 = some (.iload_n 1, 17, 0, 0, 0) := rfl
theorem c_138_17 : mj_code 138 17 = some (.aload_n 0, 18, 0, 0, 0) := rfl
theorem c_138_18 : mj_code 138 18 = some (.getfield 10, 21, 11, 0, 460) := rfl
theorem c_138_21 : mj_code 138 21 = some (.invokevirtual 384, 24, 4, 0, 905) := rfl
theorem c_138_24 : mj_code 138 24 = some (.ifCond .ne 5, 27, 29, 0, 0) := rfl
theorem c_138_27 : mj_code 138 27 = some (.iconst 0, 28, 0, 0, 0) := rfl
theorem c_138_28 : mj_code 138 28 = some (.ireturn, 29, 0, 0, 0) := rfl
theorem c_138_29 : mj_code 138 29 = some (.iinc 2 1, 32, 0, 0, 0) := rfl
theorem c_138_32 : mj_code 138 32 = some (.goto (-30), 35, 2, 0, 0) := rfl
theorem c_138_35 : mj_code 138 35 = some (.iconst 1, 36, 0, 0, 0) := rfl
theorem c_138_36 : mj_code 138 36 = some (.ireturn, 37, 0, 0, 0) := rfl
theorem c_140_0 : mj_code 140 0 = some (.iconst 1, 1, 0, 0, 0) := rfl
theorem c_140_1 : mj_code 140 1 = some (.istore_n 2, 2, 0, 0, 0) := rfl
theorem c_140_2 : mj_code 140 2 = some (.iconst 0, 3, 0, 0, 0) := rfl
theorem c_140_3 : mj_code 140 3 = some (.istore_n 3, 4, 0, 0, 0) := rfl
theorem c_140_4 : mj_code 140 4 = some (.iload_n 3, 5, 0, 0, 0) := rfl
theorem c_140_5 : mj_code 140 5 = some (.iload_n 1, 6, 0, 0, 0) := rfl
theorem c_140_6 : mj_code 140 6 = some (.if_icmp .ge 13, 9, 19, 0, 0) := rfl
theorem c_140_9 : mj_code 140 9 = some (.iload_n 2, 10, 0, 0, 0) := rfl
theorem c_140_10 : mj_code 140 10 = some (.iload_n 0, 11, 0, 0, 0) := rfl
theorem c_140_11 : mj_code 140 11 = some (.imul, 12, 0, 0, 0) := rfl
theorem c_140_12 : mj_code 140 12 = some (.istore_n 2, 13, 0, 0, 0) := rfl
theorem c_140_13 : mj_code 140 13 = some (.iinc 3 1, 16, 0, 0, 0) := rfl
theorem c_140_16 : mj_code 140 16 = some (.goto (-12), 19, 4, 0, 0) := rfl
theorem c_140_19 : mj_code 140 19 = some (.iload_n 2, 20, 0, 0, 0) := rfl
theorem c_140_20 : mj_code 140 20 = some (.ireturn, 21, 0, 0, 0) := rfl
theorem c_141_0 : mj_code 141 0 = some (.iconst 0, 1, 0, 0, 0) := rfl
theorem c_141_1 : mj_code 141 1 = some (.istore_n 1, 2, 0, 0, 0) := rfl
theorem c_141_2 : mj_code 141 2 = some (.iload_n 1, 3, 0, 0, 0) := rfl
theorem c_141_3 : mj_code 141 3 = some (.iconst 4, 4, 0, 0, 0) := rfl
theorem c_141_4 : mj_code 141 4 = some (.if_icmp .ge 16, 7, 20, 0, 0) := rfl
theorem c_141_7 : mj_code 141 7 = some (.aload_n 0, 8, 0, 0, 0) := rfl
theorem c_141_8 : mj_code 141 8 = some (.getfield 51, 11, 12, 16, 1068) := rfl
theorem c_141_11 : mj_code 141 11 = some (.iload_n 1, 12, 0, 0, 0) := rfl
theorem c_141_12 : mj_code 141 12 = some (.iconst (-1), 13, 0, 0, 0) := rfl
theorem c_141_13 : mj_code 141 13 = some (.iastore, 14, 0, 0, 0) := rfl
theorem c_141_14 : mj_code 141 14 = some (.iinc 1 1, 17, 0, 0, 0) := rfl
theorem c_141_17 : mj_code 141 17 = some (.goto (-15), 20, 2, 0, 0) := rfl
theorem c_141_20 : mj_code 141 20 = some (.return_, 21, 0, 0, 0) := rfl
theorem c_142_0 : mj_code 142 0 = some (.iload_n 1, 1, 0, 0, 0) := rfl
theorem c_142_1 : mj_code 142 1 = some (.iconst 2, 2, 0, 0, 0) := rfl
theorem c_142_2 : mj_code 142 2 = some (.if_icmp .lt 8, 5, 10, 0, 0) := rfl
theorem c_142_5 : mj_code 142 5 = some (.iload_n 1, 6, 0, 0, 0) := rfl
theorem c_142_6 : mj_code 142 6 = some (.iconst 3, 7, 0, 0, 0) := rfl
theorem c_142_7 : mj_code 142 7 = some (.if_icmp .le 5, 10, 12, 0, 0) := rfl
theorem c_142_10 : mj_code 142 10 = some (.iconst 0, 11, 0, 0, 0) := rfl
theorem c_142_11 : mj_code 142 11 = some (.ireturn, 12, 0, 0, 0) := rfl
theorem c_142_12 : mj_code 142 12 = some (.aload_n 0, 13, 0, 0, 0) := rfl
theorem c_142_13 : mj_code 142 13 = some (.iload_n 1, 14, 0, 0, 0) := rfl
theorem c_142_14 : mj_code 142 14 = some (.putfield 7, 17, 12, 0, 1052) := rfl
theorem c_142_17 : mj_code 142 17 = some (.aload_n 0, 18, 0, 0, 0) := rfl
theorem c_142_18 : mj_code 142 18 = some (.iconst 0, 19, 0, 0, 0) := rfl
theorem c_142_19 : mj_code 142 19 = some (.putfield 72, 22, 12, 4, 1056) := rfl
theorem c_142_22 : mj_code 142 22 = some (.aload_n 0, 23, 0, 0, 0) := rfl
theorem c_142_23 : mj_code 142 23 = some (.iconst 0, 24, 0, 0, 0) := rfl
theorem c_142_24 : mj_code 142 24 = some (.putfield 75, 27, 12, 7, 1059) := rfl
theorem c_142_27 : mj_code 142 27 = some (.aload_n 0, 28, 0, 0, 0) := rfl
theorem c_142_28 : mj_code 142 28 = some (.iconst 1, 29, 0, 0, 0) := rfl
theorem c_142_29 : mj_code 142 29 = some (.putfield 36, 32, 12, 10, 1062) := rfl
theorem c_142_32 : mj_code 142 32 = some (.aload_n 0, 33, 0, 0, 0) := rfl
theorem c_142_33 : mj_code 142 33 = some (.iconst 0, 34, 0, 0, 0) := rfl
theorem c_142_34 : mj_code 142 34 = some (.putfield 78, 37, 12, 11, 1063) := rfl
theorem c_142_37 : mj_code 142 37 = some (.aload_n 0, 38, 0, 0, 0) := rfl
theorem c_142_38 : mj_code 142 38 = some (.invokevirtual 81, 41, 141, 0, 1132) := rfl
theorem c_142_41 : mj_code 142 41 = some (.aload_n 0, 42, 0, 0, 0) := rfl
theorem c_142_42 : mj_code 142 42 = some (.iconst (-1), 43, 0, 0, 0) := rfl
theorem c_142_43 : mj_code 142 43 = some (.putfield 63, 46, 12, 20, 1072) := rfl
theorem c_142_46 : mj_code 142 46 = some (.iconst 1, 47, 0, 0, 0) := rfl
theorem c_142_47 : mj_code 142 47 = some (.ireturn, 48, 0, 0, 0) := rfl
theorem c_143_0 : mj_code 143 0 = some (.iload_n 0, 1, 0, 0, 0) := rfl
theorem c_143_1 : mj_code 143 1 = some (.ifCond .lt 13, 4, 14, 0, 0) := rfl
theorem c_143_4 : mj_code 143 4 = some (.iload_n 0, 5, 0, 0, 0) := rfl
theorem c_143_5 : mj_code 143 5 = some (.bipush 7, 7, 0, 0, 0) := rfl
theorem c_143_7 : mj_code 143 7 = some (.if_icmp .gt 7, 10, 14, 0, 0) := rfl
theorem c_143_10 : mj_code 143 10 = some (.iconst 1, 11, 0, 0, 0) := rfl
theorem c_143_11 : mj_code 143 11 = some (.goto 4, 14, 15, 0, 0) := rfl
theorem c_143_14 : mj_code 143 14 = some (.iconst 0, 15, 0, 0, 0) := rfl
theorem c_143_15 : mj_code 143 15 = some (.ireturn, 16, 0, 0, 0) := rfl
theorem c_144_0 : mj_code 144 0 = some (.iload_n 1, 1, 0, 0, 0) := rfl
theorem c_144_1 : mj_code 144 1 = some (.invokestatic 84, 4, 143, 1, 1140) := rfl
theorem c_144_4 : mj_code 144 4 = some (.ifCond .eq 18, 7, 22, 0, 0) := rfl
theorem c_144_7 : mj_code 144 7 = some (.iload_n 2, 8, 0, 0, 0) := rfl
theorem c_144_8 : mj_code 144 8 = some (.ifCond .lt 14, 11, 22, 0, 0) := rfl
theorem c_144_11 : mj_code 144 11 = some (.iload_n 2, 12, 0, 0, 0) := rfl
theorem c_144_12 : mj_code 144 12 = some (.iconst 3, 13, 0, 0, 0) := rfl
theorem c_144_13 : mj_code 144 13 = some (.if_icmp .gt 9, 16, 22, 0, 0) := rfl
theorem c_144_16 : mj_code 144 16 = some (.iload_n 3, 17, 0, 0, 0) := rfl
theorem c_144_17 : mj_code 144 17 = some (.bipush 40, 19, 0, 0, 0) := rfl
theorem c_144_19 : mj_code 144 19 = some (.if_icmp .le 6, 22, 25, 0, 0) := rfl
theorem c_144_22 : mj_code 144 22 = some (.bipush (-2), 24, 0, 0, 0) := rfl
theorem c_144_24 : mj_code 144 24 = some (.ireturn, 25, 0, 0, 0) := rfl
theorem c_144_25 : mj_code 144 25 = some (.iload_n 3, 26, 0, 0, 0) := rfl
theorem c_144_26 : mj_code 144 26 = some (.ifCond .ge 6, 29, 32, 0, 0) := rfl
theorem c_144_29 : mj_code 144 29 = some (.bipush (-3), 31, 0, 0, 0) := rfl
theorem c_144_31 : mj_code 144 31 = some (.ireturn, 32, 0, 0, 0) := rfl
theorem c_144_32 : mj_code 144 32 = some (.aload_n 0, 33, 0, 0, 0) := rfl
theorem c_144_33 : mj_code 144 33 = some (.getfield 13, 36, 12, 1, 1053) := rfl
theorem c_144_36 : mj_code 144 36 = some (.iload_n 1, 37, 0, 0, 0) := rfl
theorem c_144_37 : mj_code 144 37 = some (.iload_n 3, 38, 0, 0, 0) := rfl
theorem c_144_38 : mj_code 144 38 = some (.iconst 1, 39, 0, 0, 0) := rfl
theorem c_144_39 : mj_code 144 39 = some (.iadd, 40, 0, 0, 0) := rfl
theorem c_144_40 : mj_code 144 40 = some (.iastore, 41, 0, 0, 0) := rfl
theorem c_144_41 : mj_code 144 41 = some (.aload_n 0, 42, 0, 0, 0) := rfl
theorem c_144_42 : mj_code 144 42 = some (.getfield 17, 45, 12, 2, 1054) := rfl
theorem c_144_45 : mj_code 144 45 = some (.iload_n 1, 46, 0, 0, 0) := rfl
theorem c_144_46 : mj_code 144 46 = some (.iload_n 2, 47, 0, 0, 0) := rfl
theorem c_144_47 : mj_code 144 47 = some (.iastore, 48, 0, 0, 0) := rfl
theorem c_144_48 : mj_code 144 48 = some (.iconst 0, 49, 0, 0, 0) := rfl
theorem c_144_49 : mj_code 144 49 = some (.istore 4, 51, 0, 0, 0) := rfl
theorem c_144_51 : mj_code 144 51 = some (.iload 4, 53, 0, 0, 0) := rfl
theorem c_144_53 : mj_code 144 53 = some (.iload_n 3, 54, 0, 0, 0) := rfl
theorem c_144_54 : mj_code 144 54 = some (.if_icmp .ge 22, 57, 76, 0, 0) := rfl
theorem c_144_57 : mj_code 144 57 = some (.aload_n 0, 58, 0, 0, 0) := rfl
theorem c_144_58 : mj_code 144 58 = some (.getfield 20, 61, 12, 3, 1055) := rfl
theorem c_144_61 : mj_code 144 61 = some (.bipush 40, 63, 0, 0, 0) := rfl
theorem c_144_63 : mj_code 144 63 = some (.iload_n 1, 64, 0, 0, 0) := rfl
theorem c_144_64 : mj_code 144 64 = some (.imul, 65, 0, 0, 0) := rfl
theorem c_144_65 : mj_code 144 65 = some (.iload 4, 67, 0, 0, 0) := rfl
theorem c_144_67 : mj_code 144 67 = some (.iadd, 68, 0, 0, 0) := rfl
theorem c_144_68 : mj_code 144 68 = some (.lconst 0, 69, 0, 0, 0) := rfl
theorem c_144_69 : mj_code 144 69 = some (.lastore, 70, 0, 0, 0) := rfl
theorem c_144_70 : mj_code 144 70 = some (.iinc 4 1, 73, 0, 0, 0) := rfl
theorem c_144_73 : mj_code 144 73 = some (.goto (-22), 76, 51, 0, 0) := rfl
theorem c_144_76 : mj_code 144 76 = some (.iconst 0, 77, 0, 0, 0) := rfl
theorem c_144_77 : mj_code 144 77 = some (.ireturn, 78, 0, 0, 0) := rfl
theorem c_145_0 : mj_code 145 0 = some (.iload_n 1, 1, 0, 0, 0) := rfl
theorem c_145_1 : mj_code 145 1 = some (.invokestatic 84, 4, 143, 1, 1140) := rfl
theorem c_145_4 : mj_code 145 4 = some (.ifCond .eq 12, 7, 16, 0, 0) := rfl
theorem c_145_7 : mj_code 145 7 = some (.aload_n 0, 8, 0, 0, 0) := rfl
theorem c_145_8 : mj_code 145 8 = some (.getfield 13, 11, 12, 1, 1053) := rfl
theorem c_145_11 : mj_code 145 11 = some (.iload_n 1, 12, 0, 0, 0) := rfl
theorem c_145_12 : mj_code 145 12 = some (.iaload, 13, 0, 0, 0) := rfl
theorem c_145_13 : mj_code 145 13 = some (.ifCond .ne 5, 16, 18, 0, 0) := rfl
theorem c_145_16 : mj_code 145 16 = some (.iconst 0, 17, 0, 0, 0) := rfl
theorem c_145_17 : mj_code 145 17 = some (.ireturn, 18, 0, 0, 0) := rfl
theorem c_145_18 : mj_code 145 18 = some (.aload_n 0, 19, 0, 0, 0) := rfl
theorem c_145_19 : mj_code 145 19 = some (.getfield 13, 22, 12, 1, 1053) := rfl
theorem c_145_22 : mj_code 145 22 = some (.iload_n 1, 23, 0, 0, 0) := rfl
theorem c_145_23 : mj_code 145 23 = some (.iconst 0, 24, 0, 0, 0) := rfl
theorem c_145_24 : mj_code 145 24 = some (.iastore, 25, 0, 0, 0) := rfl
theorem c_145_25 : mj_code 145 25 = some (.iconst 1, 26, 0, 0, 0) := rfl
theorem c_145_26 : mj_code 145 26 = some (.ireturn, 27, 0, 0, 0) := rfl
theorem c_146_0 : mj_code 146 0 = some (.iload_n 1, 1, 0, 0, 0) := rfl
theorem c_146_1 : mj_code 146 1 = some (.invokestatic 84, 4, 143, 1, 1140) := rfl
theorem c_146_4 : mj_code 146 4 = some (.ifCond .ne 6, 7, 10, 0, 0) := rfl
theorem c_146_7 : mj_code 146 7 = some (.bipush (-2), 9, 0, 0, 0) := rfl
theorem c_146_9 : mj_code 146 9 = some (.ireturn, 10, 0, 0, 0) := rfl
theorem c_146_10 : mj_code 146 10 = some (.aload_n 0, 11, 0, 0, 0) := rfl
theorem c_146_11 : mj_code 146 11 = some (.getfield 13, 14, 12, 1, 1053) := rfl
theorem c_146_14 : mj_code 146 14 = some (.iload_n 1, 15, 0, 0, 0) := rfl
theorem c_146_15 : mj_code 146 15 = some (.iaload, 16, 0, 0, 0) := rfl
theorem c_146_16 : mj_code 146 16 = some (.ifCond .ne 6, 19, 22, 0, 0) := rfl
theorem c_146_19 : mj_code 146 19 = some (.bipush (-5), 21, 0, 0, 0) := rfl
theorem c_146_21 : mj_code 146 21 = some (.ireturn, 22, 0, 0, 0) := rfl
theorem c_146_22 : mj_code 146 22 = some (.iload_n 2, 23, 0, 0, 0) := rfl
theorem c_146_23 : mj_code 146 23 = some (.ifCond .lt 15, 26, 38, 0, 0) := rfl
theorem c_146_26 : mj_code 146 26 = some (.iload_n 2, 27, 0, 0, 0) := rfl
theorem c_146_27 : mj_code 146 27 = some (.aload_n 0, 28, 0, 0, 0) := rfl
theorem c_146_28 : mj_code 146 28 = some (.getfield 13, 31, 12, 1, 1053) := rfl
theorem c_146_31 : mj_code 146 31 = some (.iload_n 1, 32, 0, 0, 0) := rfl
theorem c_146_32 : mj_code 146 32 = some (.iaload, 33, 0, 0, 0) := rfl
theorem c_146_33 : mj_code 146 33 = some (.iconst 1, 34, 0, 0, 0) := rfl
theorem c_146_34 : mj_code 146 34 = some (.isub, 35, 0, 0, 0) := rfl
theorem c_146_35 : mj_code 146 35 = some (.if_icmp .lt 6, 38, 41, 0, 0) := rfl
theorem c_146_38 : mj_code 146 38 = some (.bipush (-6), 40, 0, 0, 0) := rfl
theorem c_146_40 : mj_code 146 40 = some (.ireturn, 41, 0, 0, 0) := rfl
theorem c_146_41 : mj_code 146 41 = some (.aload_n 0, 42, 0, 0, 0) := rfl
theorem c_146_42 : mj_code 146 42 = some (.getfield 17, 45, 12, 2, 1054) := rfl
theorem c_146_45 : mj_code 146 45 = some (.iload_n 1, 46, 0, 0, 0) := rfl
theorem c_146_46 : mj_code 146 46 = some (.iaload, 47, 0, 0, 0) := rfl
theorem c_146_47 : mj_code 146 47 = some (.istore 5, 49, 0, 0, 0) := rfl
theorem c_146_49 : mj_code 146 49 = some (.aload_n 0, 50, 0, 0, 0) := rfl
theorem c_146_50 : mj_code 146 50 = some (.getfield 20, 53, 12, 3, 1055) := rfl
theorem c_146_53 : mj_code 146 53 = some (.bipush 40, 55, 0, 0, 0) := rfl
theorem c_146_55 : mj_code 146 55 = some (.iload_n 1, 56, 0, 0, 0) := rfl
theorem c_146_56 : mj_code 146 56 = some (.imul, 57, 0, 0, 0) := rfl
theorem c_146_57 : mj_code 146 57 = some (.iload_n 2, 58, 0, 0, 0) := rfl
theorem c_146_58 : mj_code 146 58 = some (.iadd, 59, 0, 0, 0) := rfl
theorem c_146_59 : mj_code 146 59 = some (.iload 5, 61, 0, 0, 0) := rfl
theorem c_146_61 : mj_code 146 61 = some (.ifCond .ne 10, 64, 71, 0, 0) := rfl
theorem c_146_64 : mj_code 146 64 = some (.lload_n 3, 65, 0, 0, 0) := rfl
theorem c_146_65 : mj_code 146 65 = some (.l2i, 66, 0, 0, 0) := rfl
theorem c_146_66 : mj_code 146 66 = some (.i2b, 67, 0, 0, 0) := rfl
theorem c_146_67 : mj_code 146 67 = some (.i2l, 68, 0, 0, 0) := rfl
theorem c_146_68 : mj_code 146 68 = some (.goto 29, 71, 97, 0, 0) := rfl
theorem c_146_71 : mj_code 146 71 = some (.iload 5, 73, 0, 0, 0) := rfl
theorem c_146_73 : mj_code 146 73 = some (.iconst 1, 74, 0, 0, 0) := rfl
theorem c_146_74 : mj_code 146 74 = some (.if_icmp .ne 10, 77, 84, 0, 0) := rfl
theorem c_146_77 : mj_code 146 77 = some (.lload_n 3, 78, 0, 0, 0) := rfl
theorem c_146_78 : mj_code 146 78 = some (.l2i, 79, 0, 0, 0) := rfl
theorem c_146_79 : mj_code 146 79 = some (.i2s, 80, 0, 0, 0) := rfl
theorem c_146_80 : mj_code 146 80 = some (.i2l, 81, 0, 0, 0) := rfl
theorem c_146_81 : mj_code 146 81 = some (.goto 16, 84, 97, 0, 0) := rfl
theorem c_146_84 : mj_code 146 84 = some (.iload 5, 86, 0, 0, 0) := rfl
theorem c_146_86 : mj_code 146 86 = some (.iconst 2, 87, 0, 0, 0) := rfl
theorem c_146_87 : mj_code 146 87 = some (.if_icmp .ne 9, 90, 96, 0, 0) := rfl
theorem c_146_90 : mj_code 146 90 = some (.lload_n 3, 91, 0, 0, 0) := rfl
theorem c_146_91 : mj_code 146 91 = some (.l2i, 92, 0, 0, 0) := rfl
theorem c_146_92 : mj_code 146 92 = some (.i2l, 93, 0, 0, 0) := rfl
theorem c_146_93 : mj_code 146 93 = some (.goto 4, 96, 97, 0, 0) := rfl
theorem c_146_96 : mj_code 146 96 = some (.lload_n 3, 97, 0, 0, 0) := rfl
theorem c_146_97 : mj_code 146 97 = some (.lastore, 98, 0, 0, 0) := rfl
theorem c_146_98 : mj_code 146 98 = some (.iconst 0, 99, 0, 0, 0) := rfl
theorem c_146_99 : mj_code 146 99 = some (.ireturn, 100, 0, 0, 0) := rfl
theorem c_147_0 : mj_code 147 0 = some (.lload_n 1, 1, 0, 0, 0) := rfl
theorem c_147_1 : mj_code 147 1 = some (.lconst 0, 2, 0, 0, 0) := rfl
theorem c_147_2 : mj_code 147 2 = some (.lcmp, 3, 0, 0, 0) := rfl
theorem c_147_3 : mj_code 147 3 = some (.ifCond .lt 17, 6, 20, 0, 0) := rfl
theorem c_147_6 : mj_code 147 6 = some (.lload_n 1, 7, 0, 0, 0) := rfl
theorem c_147_7 : mj_code 147 7 = some (.aload_n 0, 8, 0, 0, 0) := rfl
theorem c_147_8 : mj_code 147 8 = some (.getfield 7, 11, 12, 0, 1052) := rfl
theorem c_147_11 : mj_code 147 11 = some (.i2l, 12, 0, 0, 0) := rfl
theorem c_147_12 : mj_code 147 12 = some (.lcmp, 13, 0, 0, 0) := rfl
theorem c_147_13 : mj_code 147 13 = some (.ifCond .ge 7, 16, 20, 0, 0) := rfl
theorem c_147_16 : mj_code 147 16 = some (.iconst 1, 17, 0, 0, 0) := rfl
theorem c_147_17 : mj_code 147 17 = some (.goto 4, 20, 21, 0, 0) := rfl
theorem c_147_20 : mj_code 147 20 = some (.iconst 0, 21, 0, 0, 0) := rfl
theorem c_147_21 : mj_code 147 21 = some (.ireturn, 22, 0, 0, 0) := rfl
theorem c_148_0 : mj_code 148 0 = some (.iload_n 2, 1, 0, 0, 0) := rfl
theorem c_148_1 : mj_code 148 1 = some (.invokestatic 84, 4, 143, 1, 1140) := rfl
theorem c_148_4 : mj_code 148 4 = some (.ifCond .eq 13, 7, 17, 0, 0) := rfl
theorem c_148_7 : mj_code 148 7 = some (.iload_n 1, 8, 0, 0, 0) := rfl
theorem c_148_8 : mj_code 148 8 = some (.iconst 1, 9, 0, 0, 0) := rfl
theorem c_148_9 : mj_code 148 9 = some (.if_icmp .lt 8, 12, 17, 0, 0) := rfl
theorem c_148_12 : mj_code 148 12 = some (.iload_n 1, 13, 0, 0, 0) := rfl
theorem c_148_13 : mj_code 148 13 = some (.iconst 3, 14, 0, 0, 0) := rfl
theorem c_148_14 : mj_code 148 14 = some (.if_icmp .le 6, 17, 20, 0, 0) := rfl
theorem c_148_17 : mj_code 148 17 = some (.bipush (-2), 19, 0, 0, 0) := rfl
theorem c_148_19 : mj_code 148 19 = some (.ireturn, 20, 0, 0, 0) := rfl
theorem c_148_20 : mj_code 148 20 = some (.iconst 0, 21, 0, 0, 0) := rfl
theorem c_148_21 : mj_code 148 21 = some (.istore_n 3, 22, 0, 0, 0) := rfl
theorem c_148_22 : mj_code 148 22 = some (.iconst 0, 23, 0, 0, 0) := rfl
theorem c_148_23 : mj_code 148 23 = some (.istore 4, 25, 0, 0, 0) := rfl
theorem c_148_25 : mj_code 148 25 = some (.iload 4, 27, 0, 0, 0) := rfl
theorem c_148_27 : mj_code 148 27 = some (.aload_n 0, 28, 0, 0, 0) := rfl
theorem c_148_28 : mj_code 148 28 = some (.getfield 72, 31, 12, 4, 1056) := rfl
theorem c_148_31 : mj_code 148 31 = some (.if_icmp .ge 28, 34, 59, 0, 0) := rfl
theorem c_148_34 : mj_code 148 34 = some (.iload_n 3, 35, 0, 0, 0) := rfl
theorem c_148_35 : mj_code 148 35 = some (.aload_n 0, 36, 0, 0, 0) := rfl
theorem c_148_36 : mj_code 148 36 = some (.getfield 24, 39, 12, 5, 1057) := rfl
theorem c_148_39 : mj_code 148 39 = some (.iload 4, 41, 0, 0, 0) := rfl
theorem c_148_41 : mj_code 148 41 = some (.iaload, 42, 0, 0, 0) := rfl
theorem c_148_42 : mj_code 148 42 = some (.iconst 3, 43, 0, 0, 0) := rfl
theorem c_148_43 : mj_code 148 43 = some (.if_icmp .ne 7, 46, 50, 0, 0) := rfl
theorem c_148_46 : mj_code 148 46 = some (.iconst 1, 47, 0, 0, 0) := rfl
theorem c_148_47 : mj_code 148 47 = some (.goto 4, 50, 51, 0, 0) := rfl
theorem c_148_50 : mj_code 148 50 = some (.iconst 0, 51, 0, 0, 0) := rfl
theorem c_148_51 : mj_code 148 51 = some (.iadd, 52, 0, 0, 0) := rfl
theorem c_148_52 : mj_code 148 52 = some (.istore_n 3, 53, 0, 0, 0) := rfl
theorem c_148_53 : mj_code 148 53 = some (.iinc 4 1, 56, 0, 0, 0) := rfl
theorem c_148_56 : mj_code 148 56 = some (.goto (-31), 59, 25, 0, 0) := rfl
theorem c_148_59 : mj_code 148 59 = some (.aload_n 0, 60, 0, 0, 0) := rfl
theorem c_148_60 : mj_code 148 60 = some (.getfield 72, 63, 12, 4, 1056) := rfl
theorem c_148_63 : mj_code 148 63 = some (.bipush 8, 65, 0, 0, 0) := rfl
theorem c_148_65 : mj_code 148 65 = some (.if_icmp .eq 13, 68, 78, 0, 0) := rfl
theorem c_148_68 : mj_code 148 68 = some (.iload_n 1, 69, 0, 0, 0) := rfl
theorem c_148_69 : mj_code 148 69 = some (.iconst 3, 70, 0, 0, 0) := rfl
theorem c_148_70 : mj_code 148 70 = some (.if_icmp .ne 11, 73, 81, 0, 0) := rfl
theorem c_148_73 : mj_code 148 73 = some (.iload_n 3, 74, 0, 0, 0) := rfl
theorem c_148_74 : mj_code 148 74 = some (.iconst 2, 75, 0, 0, 0) := rfl
theorem c_148_75 : mj_code 148 75 = some (.if_icmp .ne 6, 78, 81, 0, 0) := rfl
theorem c_148_78 : mj_code 148 78 = some (.bipush (-8), 80, 0, 0, 0) := rfl
theorem c_148_80 : mj_code 148 80 = some (.ireturn, 81, 0, 0, 0) := rfl
theorem c_148_81 : mj_code 148 81 = some (.aload_n 0, 82, 0, 0, 0) := rfl
theorem c_148_82 : mj_code 148 82 = some (.getfield 13, 85, 12, 1, 1053) := rfl
theorem c_148_85 : mj_code 148 85 = some (.iload_n 2, 86, 0, 0, 0) := rfl
theorem c_148_86 : mj_code 148 86 = some (.iaload, 87, 0, 0, 0) := rfl
theorem c_148_87 : mj_code 148 87 = some (.ifCond .ne 6, 90, 93, 0, 0) := rfl
theorem c_148_90 : mj_code 148 90 = some (.bipush (-5), 92, 0, 0, 0) := rfl
theorem c_148_92 : mj_code 148 92 = some (.ireturn, 93, 0, 0, 0) := rfl
theorem c_148_93 : mj_code 148 93 = some (.aload_n 0, 94, 0, 0, 0) := rfl
theorem c_148_94 : mj_code 148 94 = some (.getfield 7, 97, 12, 0, 1052) := rfl
theorem c_148_97 : mj_code 148 97 = some (.iload_n 1, 98, 0, 0, 0) := rfl
theorem c_148_98 : mj_code 148 98 = some (.invokestatic 88, 101, 140, 1, 1155) := rfl
theorem c_148_101 : mj_code 148 101 = some (.istore 4, 103, 0, 0, 0) := rfl
theorem c_148_103 : mj_code 148 103 = some (.iconst 0, 104, 0, 0, 0) := rfl
theorem c_148_104 : mj_code 148 104 = some (.istore 5, 106, 0, 0, 0) := rfl
theorem c_148_106 : mj_code 148 106 = some (.iload 5, 108, 0, 0, 0) := rfl
theorem c_148_108 : mj_code 148 108 = some (.iload 4, 110, 0, 0, 0) := rfl
theorem c_148_110 : mj_code 148 110 = some (.if_icmp .ge 75, 113, 185, 0, 0) := rfl
theorem c_148_113 : mj_code 148 113 = some (.iload 5, 115, 0, 0, 0) := rfl
theorem c_148_115 : mj_code 148 115 = some (.aload_n 0, 116, 0, 0, 0) := rfl
theorem c_148_116 : mj_code 148 116 = some (.getfield 13, 119, 12, 1, 1053) := rfl
theorem c_148_119 : mj_code 148 119 = some (.iload_n 2, 120, 0, 0, 0) := rfl
theorem c_148_120 : mj_code 148 120 = some (.iaload, 121, 0, 0, 0) := rfl
theorem c_148_121 : mj_code 148 121 = some (.iconst 1, 122, 0, 0, 0) := rfl
theorem c_148_122 : mj_code 148 122 = some (.isub, 123, 0, 0, 0) := rfl
theorem c_148_123 : mj_code 148 123 = some (.if_icmp .lt 6, 126, 129, 0, 0) := rfl
theorem c_148_126 : mj_code 148 126 = some (.bipush (-6), 128, 0, 0, 0) := rfl
theorem c_148_128 : mj_code 148 128 = some (.ireturn, 129, 0, 0, 0) := rfl
theorem c_148_129 : mj_code 148 129 = some (.aload_n 0, 130, 0, 0, 0) := rfl
theorem c_148_130 : mj_code 148 130 = some (.aload_n 0, 131, 0, 0, 0) := rfl
theorem c_148_131 : mj_code 148 131 = some (.getfield 20, 134, 12, 3, 1055) := rfl
theorem c_148_134 : mj_code 148 134 = some (.bipush 40, 136, 0, 0, 0) := rfl
theorem c_148_136 : mj_code 148 136 = some (.iload_n 2, 137, 0, 0, 0) := rfl
theorem c_148_137 : mj_code 148 137 = some (.imul, 138, 0, 0, 0) := rfl
theorem c_148_138 : mj_code 148 138 = some (.iload 5, 140, 0, 0, 0) := rfl
theorem c_148_140 : mj_code 148 140 = some (.iadd, 141, 0, 0, 0) := rfl
theorem c_148_141 : mj_code 148 141 = some (.laload, 142, 0, 0, 0) := rfl
theorem c_148_142 : mj_code 148 142 = some (.invokevirtual 92, 145, 147, 0, 1158) := rfl
theorem c_148_145 : mj_code 148 145 = some (.ifCond .ne 6, 148, 151, 0, 0) := rfl
theorem c_148_148 : mj_code 148 148 = some (.bipush (-4), 150, 0, 0, 0) := rfl
theorem c_148_150 : mj_code 148 150 = some (.ireturn, 151, 0, 0, 0) := rfl
theorem c_148_151 : mj_code 148 151 = some (.aload_n 0, 152, 0, 0, 0) := rfl
theorem c_148_152 : mj_code 148 152 = some (.getfield 27, 155, 12, 6, 1058) := rfl
theorem c_148_155 : mj_code 148 155 = some (.bipush 27, 157, 0, 0, 0) := rfl
theorem c_148_157 : mj_code 148 157 = some (.aload_n 0, 158, 0, 0, 0) := rfl
theorem c_148_158 : mj_code 148 158 = some (.getfield 72, 161, 12, 4, 1056) := rfl
theorem c_148_161 : mj_code 148 161 = some (.imul, 162, 0, 0, 0) := rfl
theorem c_148_162 : mj_code 148 162 = some (.iload 5, 164, 0, 0, 0) := rfl
theorem c_148_164 : mj_code 148 164 = some (.iadd, 165, 0, 0, 0) := rfl
theorem c_148_165 : mj_code 148 165 = some (.aload_n 0, 166, 0, 0, 0) := rfl
theorem c_148_166 : mj_code 148 166 = some (.getfield 20, 169, 12, 3, 1055) := rfl
theorem c_148_169 : mj_code 148 169 = some (.bipush 40, 171, 0, 0, 0) := rfl
theorem c_148_171 : mj_code 148 171 = some (.iload_n 2, 172, 0, 0, 0) := rfl
theorem c_148_172 : mj_code 148 172 = some (.imul, 173, 0, 0, 0) := rfl
theorem c_148_173 : mj_code 148 173 = some (.iload 5, 175, 0, 0, 0) := rfl
theorem c_148_175 : mj_code 148 175 = some (.iadd, 176, 0, 0, 0) := rfl
theorem c_148_176 : mj_code 148 176 = some (.laload, 177, 0, 0, 0) := rfl
theorem c_148_177 : mj_code 148 177 = some (.l2i, 178, 0, 0, 0) := rfl
theorem c_148_178 : mj_code 148 178 = some (.iastore, 179, 0, 0, 0) := rfl
theorem c_148_179 : mj_code 148 179 = some (.iinc 5 1, 182, 0, 0, 0) := rfl
theorem c_148_182 : mj_code 148 182 = some (.goto (-76), 185, 106, 0, 0) := rfl
theorem c_148_185 : mj_code 148 185 = some (.aload_n 0, 186, 0, 0, 0) := rfl
theorem c_148_186 : mj_code 148 186 = some (.getfield 24, 189, 12, 5, 1057) := rfl
theorem c_148_189 : mj_code 148 189 = some (.aload_n 0, 190, 0, 0, 0) := rfl
theorem c_148_190 : mj_code 148 190 = some (.getfield 72, 193, 12, 4, 1056) := rfl
theorem c_148_193 : mj_code 148 193 = some (.iload_n 1, 194, 0, 0, 0) := rfl
theorem c_148_194 : mj_code 148 194 = some (.iastore, 195, 0, 0, 0) := rfl
theorem c_148_195 : mj_code 148 195 = some (.aload_n 0, 196, 0, 0, 0) := rfl
theorem c_148_196 : mj_code 148 196 = some (.dup, 197, 0, 0, 0) := rfl
theorem c_148_197 : mj_code 148 197 = some (.getfield 72, 200, 12, 4, 1056) := rfl
theorem c_148_200 : mj_code 148 200 = some (.iconst 1, 201, 0, 0, 0) := rfl
theorem c_148_201 : mj_code 148 201 = some (.iadd, 202, 0, 0, 0) := rfl
theorem c_148_202 : mj_code 148 202 = some (.putfield 72, 205, 12, 4, 1056) := rfl
theorem c_148_205 : mj_code 148 205 = some (.aload_n 0, 206, 0, 0, 0) := rfl
theorem c_148_206 : mj_code 148 206 = some (.invokevirtual 81, 209, 141, 0, 1132) := rfl
theorem c_148_209 : mj_code 148 209 = some (.aload_n 0, 210, 0, 0, 0) := rfl
theorem c_148_210 : mj_code 148 210 = some (.getfield 72, 213, 12, 4, 1056) := rfl
theorem c_148_213 : mj_code 148 213 = some (.iconst 1, 214, 0, 0, 0) := rfl
theorem c_148_214 : mj_code 148 214 = some (.isub, 215, 0, 0, 0) := rfl
theorem c_148_215 : mj_code 148 215 = some (.ireturn, 216, 0, 0, 0) := rfl
theorem c_149_0 : mj_code 149 0 = some (.iload_n 2, 1, 0, 0, 0) := rfl
theorem c_149_1 : mj_code 149 1 = some (.invokestatic 84, 4, 143, 1, 1140) := rfl
theorem c_149_4 : mj_code 149 4 = some (.ifCond .eq 13, 7, 17, 0, 0) := rfl
theorem c_149_7 : mj_code 149 7 = some (.iload_n 1, 8, 0, 0, 0) := rfl
theorem c_149_8 : mj_code 149 8 = some (.iconst 1, 9, 0, 0, 0) := rfl
theorem c_149_9 : mj_code 149 9 = some (.if_icmp .lt 8, 12, 17, 0, 0) := rfl
theorem c_149_12 : mj_code 149 12 = some (.iload_n 1, 13, 0, 0, 0) := rfl
theorem c_149_13 : mj_code 149 13 = some (.iconst 3, 14, 0, 0, 0) := rfl
theorem c_149_14 : mj_code 149 14 = some (.if_icmp .le 6, 17, 20, 0, 0) := rfl
theorem c_149_17 : mj_code 149 17 = some (.bipush (-2), 19, 0, 0, 0) := rfl
theorem c_149_19 : mj_code 149 19 = some (.ireturn, 20, 0, 0, 0) := rfl
theorem c_149_20 : mj_code 149 20 = some (.aload_n 0, 21, 0, 0, 0) := rfl
theorem c_149_21 : mj_code 149 21 = some (.getfield 75, 24, 12, 7, 1059) := rfl
theorem c_149_24 : mj_code 149 24 = some (.bipush 12, 26, 0, 0, 0) := rfl
theorem c_149_26 : mj_code 149 26 = some (.if_icmp .ne 6, 29, 32, 0, 0) := rfl
theorem c_149_29 : mj_code 149 29 = some (.bipush (-8), 31, 0, 0, 0) := rfl
theorem c_149_31 : mj_code 149 31 = some (.ireturn, 32, 0, 0, 0) := rfl
theorem c_149_32 : mj_code 149 32 = some (.aload_n 0, 33, 0, 0, 0) := rfl
theorem c_149_33 : mj_code 149 33 = some (.getfield 13, 36, 12, 1, 1053) := rfl
theorem c_149_36 : mj_code 149 36 = some (.iload_n 2, 37, 0, 0, 0) := rfl
theorem c_149_37 : mj_code 149 37 = some (.iaload, 38, 0, 0, 0) := rfl
theorem c_149_38 : mj_code 149 38 = some (.ifCond .ne 6, 41, 44, 0, 0) := rfl
theorem c_149_41 : mj_code 149 41 = some (.bipush (-5), 43, 0, 0, 0) := rfl
theorem c_149_43 : mj_code 149 43 = some (.ireturn, 44, 0, 0, 0) := rfl
theorem c_149_44 : mj_code 149 44 = some (.aload_n 0, 45, 0, 0, 0) := rfl
theorem c_149_45 : mj_code 149 45 = some (.getfield 13, 48, 12, 1, 1053) := rfl
theorem c_149_48 : mj_code 149 48 = some (.iload_n 2, 49, 0, 0, 0) := rfl
theorem c_149_49 : mj_code 149 49 = some (.iaload, 50, 0, 0, 0) := rfl
theorem c_149_50 : mj_code 149 50 = some (.iconst 1, 51, 0, 0, 0) := rfl
theorem c_149_51 : mj_code 149 51 = some (.isub, 52, 0, 0, 0) := rfl
theorem c_149_52 : mj_code 149 52 = some (.istore_n 3, 53, 0, 0, 0) := rfl
theorem c_149_53 : mj_code 149 53 = some (.iload_n 3, 54, 0, 0, 0) := rfl
theorem c_149_54 : mj_code 149 54 = some (.ifCond .ne 6, 57, 60, 0, 0) := rfl
theorem c_149_57 : mj_code 149 57 = some (.bipush (-6), 59, 0, 0, 0) := rfl
theorem c_149_59 : mj_code 149 59 = some (.ireturn, 60, 0, 0, 0) := rfl
theorem c_149_60 : mj_code 149 60 = some (.aload_n 0, 61, 0, 0, 0) := rfl
theorem c_149_61 : mj_code 149 61 = some (.getfield 20, 64, 12, 3, 1055) := rfl
theorem c_149_64 : mj_code 149 64 = some (.bipush 40, 66, 0, 0, 0) := rfl
theorem c_149_66 : mj_code 149 66 = some (.iload_n 2, 67, 0, 0, 0) := rfl
theorem c_149_67 : mj_code 149 67 = some (.imul, 68, 0, 0, 0) := rfl
theorem c_149_68 : mj_code 149 68 = some (.laload, 69, 0, 0, 0) := rfl
theorem c_149_69 : mj_code 149 69 = some (.lstore 4, 71, 0, 0, 0) := rfl
theorem c_149_71 : mj_code 149 71 = some (.lload 4, 73, 0, 0, 0) := rfl
theorem c_149_73 : mj_code 149 73 = some (.lconst 0, 74, 0, 0, 0) := rfl
theorem c_149_74 : mj_code 149 74 = some (.lcmp, 75, 0, 0, 0) := rfl
theorem c_149_75 : mj_code 149 75 = some (.ifCond .lt 12, 78, 87, 0, 0) := rfl
theorem c_149_78 : mj_code 149 78 = some (.lload 4, 80, 0, 0, 0) := rfl
theorem c_149_80 : mj_code 149 80 = some (.ldc2_w 96, 83, 27, 0, 1166) := rfl
theorem c_149_83 : mj_code 149 83 = some (.lcmp, 84, 0, 0, 0) := rfl
theorem c_149_84 : mj_code 149 84 = some (.ifCond .le 6, 87, 90, 0, 0) := rfl
theorem c_149_87 : mj_code 149 87 = some (.bipush (-4), 89, 0, 0, 0) := rfl
theorem c_149_89 : mj_code 149 89 = some (.ireturn, 90, 0, 0, 0) := rfl
theorem c_149_90 : mj_code 149 90 = some (.lconst 0, 91, 0, 0, 0) := rfl
theorem c_149_91 : mj_code 149 91 = some (.lstore 6, 93, 0, 0, 0) := rfl
theorem c_149_93 : mj_code 149 93 = some (.iconst 1, 94, 0, 0, 0) := rfl
theorem c_149_94 : mj_code 149 94 = some (.istore 8, 96, 0, 0, 0) := rfl
theorem c_149_96 : mj_code 149 96 = some (.iconst 0, 97, 0, 0, 0) := rfl
theorem c_149_97 : mj_code 149 97 = some (.istore 9, 99, 0, 0, 0) := rfl
theorem c_149_99 : mj_code 149 99 = some (.iload 9, 101, 0, 0, 0) := rfl
theorem c_149_101 : mj_code 149 101 = some (.i2l, 102, 0, 0, 0) := rfl
theorem c_149_102 : mj_code 149 102 = some (.lload 4, 104, 0, 0, 0) := rfl
theorem c_149_104 : mj_code 149 104 = some (.lcmp, 105, 0, 0, 0) := rfl
theorem c_149_105 : mj_code 149 105 = some (.ifCond .ge 93, 108, 198, 0, 0) := rfl
theorem c_149_108 : mj_code 149 108 = some (.iconst 0, 109, 0, 0, 0) := rfl
theorem c_149_109 : mj_code 149 109 = some (.istore 10, 111, 0, 0, 0) := rfl
theorem c_149_111 : mj_code 149 111 = some (.iconst 0, 112, 0, 0, 0) := rfl
theorem c_149_112 : mj_code 149 112 = some (.istore 11, 114, 0, 0, 0) := rfl
theorem c_149_114 : mj_code 149 114 = some (.iload 11, 116, 0, 0, 0) := rfl
theorem c_149_116 : mj_code 149 116 = some (.iload_n 1, 117, 0, 0, 0) := rfl
theorem c_149_117 : mj_code 149 117 = some (.if_icmp .ge 66, 120, 183, 0, 0) := rfl
theorem c_149_120 : mj_code 149 120 = some (.iload 8, 122, 0, 0, 0) := rfl
theorem c_149_122 : mj_code 149 122 = some (.iload_n 3, 123, 0, 0, 0) := rfl
theorem c_149_123 : mj_code 149 123 = some (.if_icmp .lt 6, 126, 129, 0, 0) := rfl
theorem c_149_126 : mj_code 149 126 = some (.bipush (-6), 128, 0, 0, 0) := rfl
theorem c_149_128 : mj_code 149 128 = some (.ireturn, 129, 0, 0, 0) := rfl
theorem c_149_129 : mj_code 149 129 = some (.aload_n 0, 130, 0, 0, 0) := rfl
theorem c_149_130 : mj_code 149 130 = some (.aload_n 0, 131, 0, 0, 0) := rfl
theorem c_149_131 : mj_code 149 131 = some (.getfield 20, 134, 12, 3, 1055) := rfl
theorem c_149_134 : mj_code 149 134 = some (.bipush 40, 136, 0, 0, 0) := rfl
theorem c_149_136 : mj_code 149 136 = some (.iload_n 2, 137, 0, 0, 0) := rfl
theorem c_149_137 : mj_code 149 137 = some (.imul, 138, 0, 0, 0) := rfl
theorem c_149_138 : mj_code 149 138 = some (.iload 8, 140, 0, 0, 0) := rfl
theorem c_149_140 : mj_code 149 140 = some (.iadd, 141, 0, 0, 0) := rfl
theorem c_149_141 : mj_code 149 141 = some (.laload, 142, 0, 0, 0) := rfl
theorem c_149_142 : mj_code 149 142 = some (.invokevirtual 92, 145, 147, 0, 1158) := rfl
theorem c_149_145 : mj_code 149 145 = some (.ifCond .ne 6, 148, 151, 0, 0) := rfl
theorem c_149_148 : mj_code 149 148 = some (.bipush (-4), 150, 0, 0, 0) := rfl
theorem c_149_150 : mj_code 149 150 = some (.ireturn, 151, 0, 0, 0) := rfl
theorem c_149_151 : mj_code 149 151 = some (.iload 10, 153, 0, 0, 0) := rfl
theorem c_149_153 : mj_code 149 153 = some (.aload_n 0, 154, 0, 0, 0) := rfl
theorem c_149_154 : mj_code 149 154 = some (.getfield 7, 157, 12, 0, 1052) := rfl
theorem c_149_157 : mj_code 149 157 = some (.imul, 158, 0, 0, 0) := rfl
theorem c_149_158 : mj_code 149 158 = some (.aload_n 0, 159, 0, 0, 0) := rfl
theorem c_149_159 : mj_code 149 159 = some (.getfield 20, 162, 12, 3, 1055) := rfl
theorem c_149_162 : mj_code 149 162 = some (.bipush 40, 164, 0, 0, 0) := rfl
theorem c_149_164 : mj_code 149 164 = some (.iload_n 2, 165, 0, 0, 0) := rfl
theorem c_149_165 : mj_code 149 165 = some (.imul, 166, 0, 0, 0) := rfl
theorem c_149_166 : mj_code 149 166 = some (.iload 8, 168, 0, 0, 0) := rfl
theorem c_149_168 : mj_code 149 168 = some (.iadd, 169, 0, 0, 0) := rfl
theorem c_149_169 : mj_code 149 169 = some (.laload, 170, 0, 0, 0) := rfl
theorem c_149_170 : mj_code 149 170 = some (.l2i, 171, 0, 0, 0) := rfl
theorem c_149_171 : mj_code 149 171 = some (.iadd, 172, 0, 0, 0) := rfl
theorem c_149_172 : mj_code 149 172 = some (.istore 10, 174, 0, 0, 0) := rfl
theorem c_149_174 : mj_code 149 174 = some (.iinc 8 1, 177, 0, 0, 0) := rfl
theorem c_149_177 : mj_code 149 177 = some (.iinc 11 1, 180, 0, 0, 0) := rfl
theorem c_149_180 : mj_code 149 180 = some (.goto (-66), 183, 114, 0, 0) := rfl
theorem c_149_183 : mj_code 149 183 = some (.lload 6, 185, 0, 0, 0) := rfl
theorem c_149_185 : mj_code 149 185 = some (.lconst 1, 186, 0, 0, 0) := rfl
theorem c_149_186 : mj_code 149 186 = some (.iload 10, 188, 0, 0, 0) := rfl
theorem c_149_188 : mj_code 149 188 = some (.lshl, 189, 0, 0, 0) := rfl
theorem c_149_189 : mj_code 149 189 = some (.lor, 190, 0, 0, 0) := rfl
theorem c_149_190 : mj_code 149 190 = some (.lstore 6, 192, 0, 0, 0) := rfl
theorem c_149_192 : mj_code 149 192 = some (.iinc 9 1, 195, 0, 0, 0) := rfl
theorem c_149_195 : mj_code 149 195 = some (.goto (-96), 198, 99, 0, 0) := rfl
theorem c_149_198 : mj_code 149 198 = some (.aload_n 0, 199, 0, 0, 0) := rfl
theorem c_149_199 : mj_code 149 199 = some (.getfield 30, 202, 12, 8, 1060) := rfl
theorem c_149_202 : mj_code 149 202 = some (.aload_n 0, 203, 0, 0, 0) := rfl
theorem c_149_203 : mj_code 149 203 = some (.getfield 75, 206, 12, 7, 1059) := rfl
theorem c_149_206 : mj_code 149 206 = some (.iload_n 1, 207, 0, 0, 0) := rfl
theorem c_149_207 : mj_code 149 207 = some (.iastore, 208, 0, 0, 0) := rfl
theorem c_149_208 : mj_code 149 208 = some (.aload_n 0, 209, 0, 0, 0) := rfl
theorem c_149_209 : mj_code 149 209 = some (.getfield 33, 212, 12, 9, 1061) := rfl
theorem c_149_212 : mj_code 149 212 = some (.aload_n 0, 213, 0, 0, 0) := rfl
theorem c_149_213 : mj_code 149 213 = some (.getfield 75, 216, 12, 7, 1059) := rfl
theorem c_149_216 : mj_code 149 216 = some (.lload 6, 218, 0, 0, 0) := rfl
theorem c_149_218 : mj_code 149 218 = some (.lastore, 219, 0, 0, 0) := rfl
theorem c_149_219 : mj_code 149 219 = some (.aload_n 0, 220, 0, 0, 0) := rfl
theorem c_149_220 : mj_code 149 220 = some (.dup, 221, 0, 0, 0) := rfl
theorem c_149_221 : mj_code 149 221 = some (.getfield 75, 224, 12, 7, 1059) := rfl
theorem c_149_224 : mj_code 149 224 = some (.iconst 1, 225, 0, 0, 0) := rfl
theorem c_149_225 : mj_code 149 225 = some (.iadd, 226, 0, 0, 0) := rfl
theorem c_149_226 : mj_code 149 226 = some (.putfield 75, 229, 12, 7, 1059) := rfl
theorem c_149_229 : mj_code 149 229 = some (.aload_n 0, 230, 0, 0, 0) := rfl
theorem c_149_230 : mj_code 149 230 = some (.getfield 75, 233, 12, 7, 1059) := rfl
theorem c_149_233 : mj_code 149 233 = some (.iconst 1, 234, 0, 0, 0) := rfl
theorem c_149_234 : mj_code 149 234 = some (.isub, 235, 0, 0, 0) := rfl
theorem c_149_235 : mj_code 149 235 = some (.ireturn, 236, 0, 0, 0) := rfl
theorem c_150_0 : mj_code 150 0 = some (.iload_n 1, 1, 0, 0, 0) := rfl
theorem c_150_1 : mj_code 150 1 = some (.ifCond .lt 32, 4, 33, 0, 0) := rfl
theorem c_150_4 : mj_code 150 4 = some (.iload_n 1, 5, 0, 0, 0) := rfl
theorem c_150_5 : mj_code 150 5 = some (.aload_n 0, 6, 0, 0, 0) := rfl
theorem c_150_6 : mj_code 150 6 = some (.getfield 72, 9, 12, 4, 1056) := rfl
theorem c_150_9 : mj_code 150 9 = some (.if_icmp .ge 24, 12, 33, 0, 0) := rfl
theorem c_150_12 : mj_code 150 12 = some (.iload_n 2, 13, 0, 0, 0) := rfl
theorem c_150_13 : mj_code 150 13 = some (.ifCond .lt 20, 16, 33, 0, 0) := rfl
theorem c_150_16 : mj_code 150 16 = some (.iload_n 2, 17, 0, 0, 0) := rfl
theorem c_150_17 : mj_code 150 17 = some (.aload_n 0, 18, 0, 0, 0) := rfl
theorem c_150_18 : mj_code 150 18 = some (.getfield 7, 21, 12, 0, 1052) := rfl
theorem c_150_21 : mj_code 150 21 = some (.aload_n 0, 22, 0, 0, 0) := rfl
theorem c_150_22 : mj_code 150 22 = some (.getfield 24, 25, 12, 5, 1057) := rfl
theorem c_150_25 : mj_code 150 25 = some (.iload_n 1, 26, 0, 0, 0) := rfl
theorem c_150_26 : mj_code 150 26 = some (.iaload, 27, 0, 0, 0) := rfl
theorem c_150_27 : mj_code 150 27 = some (.invokestatic 88, 30, 140, 1, 1155) := rfl
theorem c_150_30 : mj_code 150 30 = some (.if_icmp .lt 7, 33, 37, 0, 0) := rfl
theorem c_150_33 : mj_code 150 33 = some (.iconst (-1), 34, 0, 0, 0) := rfl
theorem c_150_34 : mj_code 150 34 = some (.goto 14, 37, 48, 0, 0) := rfl
theorem c_150_37 : mj_code 150 37 = some (.aload_n 0, 38, 0, 0, 0) := rfl
theorem c_150_38 : mj_code 150 38 = some (.getfield 27, 41, 12, 6, 1058) := rfl
theorem c_150_41 : mj_code 150 41 = some (.bipush 27, 43, 0, 0, 0) := rfl
theorem c_150_43 : mj_code 150 43 = some (.iload_n 1, 44, 0, 0, 0) := rfl
theorem c_150_44 : mj_code 150 44 = some (.imul, 45, 0, 0, 0) := rfl
theorem c_150_45 : mj_code 150 45 = some (.iload_n 2, 46, 0, 0, 0) := rfl
theorem c_150_46 : mj_code 150 46 = some (.iadd, 47, 0, 0, 0) := rfl
theorem c_150_47 : mj_code 150 47 = some (.iaload, 48, 0, 0, 0) := rfl
theorem c_150_48 : mj_code 150 48 = some (.ireturn, 49, 0, 0, 0) := rfl
theorem c_151_0 : mj_code 151 0 = some (.iload_n 1, 1, 0, 0, 0) := rfl
theorem c_151_1 : mj_code 151 1 = some (.ifCond .lt 11, 4, 12, 0, 0) := rfl
theorem c_151_4 : mj_code 151 4 = some (.iload_n 1, 5, 0, 0, 0) := rfl
theorem c_151_5 : mj_code 151 5 = some (.aload_n 0, 6, 0, 0, 0) := rfl
theorem c_151_6 : mj_code 151 6 = some (.getfield 75, 9, 12, 7, 1059) := rfl
theorem c_151_9 : mj_code 151 9 = some (.if_icmp .lt 9, 12, 18, 0, 0) := rfl
theorem c_151_12 : mj_code 151 12 = some (.ldc2_w 98, 15, 18446744073709551615, 0, 1175) := rfl
theorem c_151_15 : mj_code 151 15 = some (.goto 9, 18, 24, 0, 0) := rfl
theorem c_151_18 : mj_code 151 18 = some (.aload_n 0, 19, 0, 0, 0) := rfl
theorem c_151_19 : mj_code 151 19 = some (.getfield 33, 22, 12, 9, 1061) := rfl
theorem c_151_22 : mj_code 151 22 = some (.iload_n 1, 23, 0, 0, 0) := rfl
theorem c_151_23 : mj_code 151 23 = some (.laload, 24, 0, 0, 0) := rfl
theorem c_151_24 : mj_code 151 24 = some (.lreturn, 25, 0, 0, 0) := rfl
theorem c_152_0 : mj_code 152 0 = some (.iload_n 1, 1, 0, 0, 0) := rfl
theorem c_152_1 : mj_code 152 1 = some (.aload_n 0, 2, 0, 0, 0) := rfl
theorem c_152_2 : mj_code 152 2 = some (.getfield 7, 5, 12, 0, 1052) := rfl
theorem c_152_5 : mj_code 152 5 = some (.iload_n 2, 6, 0, 0, 0) := rfl
theorem c_152_6 : mj_code 152 6 = some (.iconst 1, 7, 0, 0, 0) := rfl
theorem c_152_7 : mj_code 152 7 = some (.isub, 8, 0, 0, 0) := rfl
theorem c_152_8 : mj_code 152 8 = some (.iload_n 3, 9, 0, 0, 0) := rfl
theorem c_152_9 : mj_code 152 9 = some (.isub, 10, 0, 0, 0) := rfl
theorem c_152_10 : mj_code 152 10 = some (.invokestatic 88, 13, 140, 1, 1155) := rfl
theorem c_152_13 : mj_code 152 13 = some (.idiv, 14, 0, 0, 0) := rfl
theorem c_152_14 : mj_code 152 14 = some (.aload_n 0, 15, 0, 0, 0) := rfl
theorem c_152_15 : mj_code 152 15 = some (.getfield 7, 18, 12, 0, 1052) := rfl
theorem c_152_18 : mj_code 152 18 = some (.irem, 19, 0, 0, 0) := rfl
theorem c_152_19 : mj_code 152 19 = some (.ireturn, 20, 0, 0, 0) := rfl
theorem c_153_0 : mj_code 153 0 = some (.iconst 0, 1, 0, 0, 0) := rfl
theorem c_153_1 : mj_code 153 1 = some (.istore 8, 3, 0, 0, 0) := rfl
theorem c_153_3 : mj_code 153 3 = some (.aload_n 0, 4, 0, 0, 0) := rfl
theorem c_153_4 : mj_code 153 4 = some (.getfield 7, 7, 12, 0, 1052) := rfl
theorem c_153_7 : mj_code 153 7 = some (.iload 4, 9, 0, 0, 0) := rfl
theorem c_153_9 : mj_code 153 9 = some (.iconst 1, 10, 0, 0, 0) := rfl
theorem c_153_10 : mj_code 153 10 = some (.isub, 11, 0, 0, 0) := rfl
theorem c_153_11 : mj_code 153 11 = some (.invokestatic 88, 14, 140, 1, 1155) := rfl
theorem c_153_14 : mj_code 153 14 = some (.istore 9, 16, 0, 0, 0) := rfl
theorem c_153_16 : mj_code 153 16 = some (.iconst 0, 17, 0, 0, 0) := rfl
theorem c_153_17 : mj_code 153 17 = some (.istore 10, 19, 0, 0, 0) := rfl
theorem c_153_19 : mj_code 153 19 = some (.iload 10, 21, 0, 0, 0) := rfl
theorem c_153_21 : mj_code 153 21 = some (.iload 4, 23, 0, 0, 0) := rfl
theorem c_153_23 : mj_code 153 23 = some (.if_icmp .ge 96, 26, 119, 0, 0) := rfl
theorem c_153_26 : mj_code 153 26 = some (.iload 5, 28, 0, 0, 0) := rfl
theorem c_153_28 : mj_code 153 28 = some (.iload 9, 30, 0, 0, 0) := rfl
theorem c_153_30 : mj_code 153 30 = some (.idiv, 31, 0, 0, 0) := rfl
theorem c_153_31 : mj_code 153 31 = some (.aload_n 0, 32, 0, 0, 0) := rfl
theorem c_153_32 : mj_code 153 32 = some (.getfield 7, 35, 12, 0, 1052) := rfl
theorem c_153_35 : mj_code 153 35 = some (.irem, 36, 0, 0, 0) := rfl
theorem c_153_36 : mj_code 153 36 = some (.istore 11, 38, 0, 0, 0) := rfl
theorem c_153_38 : mj_code 153 38 = some (.iload_n 1, 39, 0, 0, 0) := rfl
theorem c_153_39 : mj_code 153 39 = some (.iconst 1, 40, 0, 0, 0) := rfl
theorem c_153_40 : mj_code 153 40 = some (.if_icmp .le 23, 43, 63, 0, 0) := rfl
theorem c_153_43 : mj_code 153 43 = some (.iload 11, 45, 0, 0, 0) := rfl
theorem c_153_45 : mj_code 153 45 = some (.aload_n 0, 46, 0, 0, 0) := rfl
theorem c_153_46 : mj_code 153 46 = some (.getfield 7, 49, 12, 0, 1052) := rfl
theorem c_153_49 : mj_code 153 49 = some (.imul, 50, 0, 0, 0) := rfl
theorem c_153_50 : mj_code 153 50 = some (.iload 6, 52, 0, 0, 0) := rfl
theorem c_153_52 : mj_code 153 52 = some (.iload 9, 54, 0, 0, 0) := rfl
theorem c_153_54 : mj_code 153 54 = some (.idiv, 55, 0, 0, 0) := rfl
theorem c_153_55 : mj_code 153 55 = some (.aload_n 0, 56, 0, 0, 0) := rfl
theorem c_153_56 : mj_code 153 56 = some (.getfield 7, 59, 12, 0, 1052) := rfl
theorem c_153_59 : mj_code 153 59 = some (.irem, 60, 0, 0, 0) := rfl
theorem c_153_60 : mj_code 153 60 = some (.iadd, 61, 0, 0, 0) := rfl
theorem c_153_61 : mj_code 153 61 = some (.istore 11, 63, 0, 0, 0) := rfl
theorem c_153_63 : mj_code 153 63 = some (.iload_n 1, 64, 0, 0, 0) := rfl
theorem c_153_64 : mj_code 153 64 = some (.iconst 2, 65, 0, 0, 0) := rfl
theorem c_153_65 : mj_code 153 65 = some (.if_icmp .le 23, 68, 88, 0, 0) := rfl
theorem c_153_68 : mj_code 153 68 = some (.iload 11, 70, 0, 0, 0) := rfl
theorem c_153_70 : mj_code 153 70 = some (.aload_n 0, 71, 0, 0, 0) := rfl
theorem c_153_71 : mj_code 153 71 = some (.getfield 7, 74, 12, 0, 1052) := rfl
theorem c_153_74 : mj_code 153 74 = some (.imul, 75, 0, 0, 0) := rfl
theorem c_153_75 : mj_code 153 75 = some (.iload 7, 77, 0, 0, 0) := rfl
theorem c_153_77 : mj_code 153 77 = some (.iload 9, 79, 0, 0, 0) := rfl
theorem c_153_79 : mj_code 153 79 = some (.idiv, 80, 0, 0, 0) := rfl
theorem c_153_80 : mj_code 153 80 = some (.aload_n 0, 81, 0, 0, 0) := rfl
theorem c_153_81 : mj_code 153 81 = some (.getfield 7, 84, 12, 0, 1052) := rfl
theorem c_153_84 : mj_code 153 84 = some (.irem, 85, 0, 0, 0) := rfl
theorem c_153_85 : mj_code 153 85 = some (.iadd, 86, 0, 0, 0) := rfl
theorem c_153_86 : mj_code 153 86 = some (.istore 11, 88, 0, 0, 0) := rfl
theorem c_153_88 : mj_code 153 88 = some (.iload 8, 90, 0, 0, 0) := rfl
theorem c_153_90 : mj_code 153 90 = some (.aload_n 0, 91, 0, 0, 0) := rfl
theorem c_153_91 : mj_code 153 91 = some (.getfield 7, 94, 12, 0, 1052) := rfl
theorem c_153_94 : mj_code 153 94 = some (.imul, 95, 0, 0, 0) := rfl
theorem c_153_95 : mj_code 153 95 = some (.aload_n 2, 96, 0, 0, 0) := rfl
theorem c_153_96 : mj_code 153 96 = some (.iload_n 3, 97, 0, 0, 0) := rfl
theorem c_153_97 : mj_code 153 97 = some (.iload 11, 99, 0, 0, 0) := rfl
theorem c_153_99 : mj_code 153 99 = some (.iadd, 100, 0, 0, 0) := rfl
theorem c_153_100 : mj_code 153 100 = some (.iaload, 101, 0, 0, 0) := rfl
theorem c_153_101 : mj_code 153 101 = some (.iadd, 102, 0, 0, 0) := rfl
theorem c_153_102 : mj_code 153 102 = some (.istore 8, 104, 0, 0, 0) := rfl
theorem c_153_104 : mj_code 153 104 = some (.iload 9, 106, 0, 0, 0) := rfl
theorem c_153_106 : mj_code 153 106 = some (.aload_n 0, 107, 0, 0, 0) := rfl
theorem c_153_107 : mj_code 153 107 = some (.getfield 7, 110, 12, 0, 1052) := rfl
theorem c_153_110 : mj_code 153 110 = some (.idiv, 111, 0, 0, 0) := rfl
theorem c_153_111 : mj_code 153 111 = some (.istore 9, 113, 0, 0, 0) := rfl
theorem c_153_113 : mj_code 153 113 = some (.iinc 10 1, 116, 0, 0, 0) := rfl
theorem c_153_116 : mj_code 153 116 = some (.goto (-97), 119, 19, 0, 0) := rfl
theorem c_153_119 : mj_code 153 119 = some (.iload 8, 121, 0, 0, 0) := rfl
theorem c_153_121 : mj_code 153 121 = some (.ireturn, 122, 0, 0, 0) := rfl
theorem c_154_0 : mj_code 154 0 = some (.aload_n 0, 1, 0, 0, 0) := rfl
theorem c_154_1 : mj_code 154 1 = some (.getfield 7, 4, 12, 0, 1052) := rfl
theorem c_154_4 : mj_code 154 4 = some (.iload 4, 6, 0, 0, 0) := rfl
theorem c_154_6 : mj_code 154 6 = some (.invokestatic 88, 9, 140, 1, 1155) := rfl
theorem c_154_9 : mj_code 154 9 = some (.istore 7, 11, 0, 0, 0) := rfl
theorem c_154_11 : mj_code 154 11 = some (.iconst 0, 12, 0, 0, 0) := rfl
theorem c_154_12 : mj_code 154 12 = some (.istore 8, 14, 0, 0, 0) := rfl
theorem c_154_14 : mj_code 154 14 = some (.iload 8, 16, 0, 0, 0) := rfl
theorem c_154_16 : mj_code 154 16 = some (.iload 7, 18, 0, 0, 0) := rfl
theorem c_154_18 : mj_code 154 18 = some (.if_icmp .ge 146, 21, 164, 0, 0) := rfl
theorem c_154_21 : mj_code 154 21 = some (.lload 5, 23, 0, 0, 0) := rfl
theorem c_154_23 : mj_code 154 23 = some (.iload 8, 25, 0, 0, 0) := rfl
theorem c_154_25 : mj_code 154 25 = some (.lshr, 26, 0, 0, 0) := rfl
theorem c_154_26 : mj_code 154 26 = some (.lconst 1, 27, 0, 0, 0) := rfl
theorem c_154_27 : mj_code 154 27 = some (.land, 28, 0, 0, 0) := rfl
theorem c_154_28 : mj_code 154 28 = some (.lconst 0, 29, 0, 0, 0) := rfl
theorem c_154_29 : mj_code 154 29 = some (.lcmp, 30, 0, 0, 0) := rfl
theorem c_154_30 : mj_code 154 30 = some (.ifCond .ne 6, 33, 36, 0, 0) := rfl
theorem c_154_33 : mj_code 154 33 = some (.goto 125, 36, 158, 0, 0) := rfl
theorem c_154_36 : mj_code 154 36 = some (.iconst 0, 37, 0, 0, 0) := rfl
theorem c_154_37 : mj_code 154 37 = some (.istore 9, 39, 0, 0, 0) := rfl
theorem c_154_39 : mj_code 154 39 = some (.iload 9, 41, 0, 0, 0) := rfl
theorem c_154_41 : mj_code 154 41 = some (.iload_n 1, 42, 0, 0, 0) := rfl
theorem c_154_42 : mj_code 154 42 = some (.iconst 1, 43, 0, 0, 0) := rfl
theorem c_154_43 : mj_code 154 43 = some (.if_icmp .le 8, 46, 51, 0, 0) := rfl
theorem c_154_46 : mj_code 154 46 = some (.iload 7, 48, 0, 0, 0) := rfl
theorem c_154_48 : mj_code 154 48 = some (.goto 4, 51, 52, 0, 0) := rfl
theorem c_154_51 : mj_code 154 51 = some (.iconst 1, 52, 0, 0, 0) := rfl
theorem c_154_52 : mj_code 154 52 = some (.if_icmp .ge 106, 55, 158, 0, 0) := rfl
theorem c_154_55 : mj_code 154 55 = some (.iload_n 1, 56, 0, 0, 0) := rfl
theorem c_154_56 : mj_code 154 56 = some (.iconst 1, 57, 0, 0, 0) := rfl
theorem c_154_57 : mj_code 154 57 = some (.if_icmp .le 18, 60, 75, 0, 0) := rfl
theorem c_154_60 : mj_code 154 60 = some (.lload 5, 62, 0, 0, 0) := rfl
theorem c_154_62 : mj_code 154 62 = some (.iload 9, 64, 0, 0, 0) := rfl
theorem c_154_64 : mj_code 154 64 = some (.lshr, 65, 0, 0, 0) := rfl
theorem c_154_65 : mj_code 154 65 = some (.lconst 1, 66, 0, 0, 0) := rfl
theorem c_154_66 : mj_code 154 66 = some (.land, 67, 0, 0, 0) := rfl
theorem c_154_67 : mj_code 154 67 = some (.lconst 0, 68, 0, 0, 0) := rfl
theorem c_154_68 : mj_code 154 68 = some (.lcmp, 69, 0, 0, 0) := rfl
theorem c_154_69 : mj_code 154 69 = some (.ifCond .ne 6, 72, 75, 0, 0) := rfl
theorem c_154_72 : mj_code 154 72 = some (.goto 80, 75, 152, 0, 0) := rfl
theorem c_154_75 : mj_code 154 75 = some (.iconst 0, 76, 0, 0, 0) := rfl
theorem c_154_76 : mj_code 154 76 = some (.istore 10, 78, 0, 0, 0) := rfl
theorem c_154_78 : mj_code 154 78 = some (.iload 10, 80, 0, 0, 0) := rfl
theorem c_154_80 : mj_code 154 80 = some (.iload_n 1, 81, 0, 0, 0) := rfl
theorem c_154_81 : mj_code 154 81 = some (.iconst 2, 82, 0, 0, 0) := rfl
theorem c_154_82 : mj_code 154 82 = some (.if_icmp .le 8, 85, 90, 0, 0) := rfl
theorem c_154_85 : mj_code 154 85 = some (.iload 7, 87, 0, 0, 0) := rfl
theorem c_154_87 : mj_code 154 87 = some (.goto 4, 90, 91, 0, 0) := rfl
theorem c_154_90 : mj_code 154 90 = some (.iconst 1, 91, 0, 0, 0) := rfl
theorem c_154_91 : mj_code 154 91 = some (.if_icmp .ge 61, 94, 152, 0, 0) := rfl
theorem c_154_94 : mj_code 154 94 = some (.iload_n 1, 95, 0, 0, 0) := rfl
theorem c_154_95 : mj_code 154 95 = some (.iconst 2, 96, 0, 0, 0) := rfl
theorem c_154_96 : mj_code 154 96 = some (.if_icmp .le 18, 99, 114, 0, 0) := rfl
theorem c_154_99 : mj_code 154 99 = some (.lload 5, 101, 0, 0, 0) := rfl
theorem c_154_101 : mj_code 154 101 = some (.iload 10, 103, 0, 0, 0) := rfl
theorem c_154_103 : mj_code 154 103 = some (.lshr, 104, 0, 0, 0) := rfl
theorem c_154_104 : mj_code 154 104 = some (.lconst 1, 105, 0, 0, 0) := rfl
theorem c_154_105 : mj_code 154 105 = some (.land, 106, 0, 0, 0) := rfl
theorem c_154_106 : mj_code 154 106 = some (.lconst 0, 107, 0, 0, 0) := rfl
theorem c_154_107 : mj_code 154 107 = some (.lcmp, 108, 0, 0, 0) := rfl
theorem c_154_108 : mj_code 154 108 = some (.ifCond .ne 6, 111, 114, 0, 0) := rfl
theorem c_154_111 : mj_code 154 111 = some (.goto 35, 114, 146, 0, 0) := rfl
theorem c_154_114 : mj_code 154 114 = some (.aload_n 0, 115, 0, 0, 0) := rfl
theorem c_154_115 : mj_code 154 115 = some (.iload_n 1, 116, 0, 0, 0) := rfl
theorem c_154_116 : mj_code 154 116 = some (.aload_n 2, 117, 0, 0, 0) := rfl
theorem c_154_117 : mj_code 154 117 = some (.iload_n 3, 118, 0, 0, 0) := rfl
theorem c_154_118 : mj_code 154 118 = some (.iload 4, 120, 0, 0, 0) := rfl
theorem c_154_120 : mj_code 154 120 = some (.iload 8, 122, 0, 0, 0) := rfl
theorem c_154_122 : mj_code 154 122 = some (.iload 9, 124, 0, 0, 0) := rfl
theorem c_154_124 : mj_code 154 124 = some (.iload 10, 126, 0, 0, 0) := rfl
theorem c_154_126 : mj_code 154 126 = some (.invokevirtual 100, 129, 153, 0, 1188) := rfl
theorem c_154_129 : mj_code 154 129 = some (.istore 11, 131, 0, 0, 0) := rfl
theorem c_154_131 : mj_code 154 131 = some (.lload 5, 133, 0, 0, 0) := rfl
theorem c_154_133 : mj_code 154 133 = some (.iload 11, 135, 0, 0, 0) := rfl
theorem c_154_135 : mj_code 154 135 = some (.lshr, 136, 0, 0, 0) := rfl
theorem c_154_136 : mj_code 154 136 = some (.lconst 1, 137, 0, 0, 0) := rfl
theorem c_154_137 : mj_code 154 137 = some (.land, 138, 0, 0, 0) := rfl
theorem c_154_138 : mj_code 154 138 = some (.lconst 0, 139, 0, 0, 0) := rfl
theorem c_154_139 : mj_code 154 139 = some (.lcmp, 140, 0, 0, 0) := rfl
theorem c_154_140 : mj_code 154 140 = some (.ifCond .ne 6, 143, 146, 0, 0) := rfl
theorem c_154_143 : mj_code 154 143 = some (.iload 11, 145, 0, 0, 0) := rfl
theorem c_154_145 : mj_code 154 145 = some (.ireturn, 146, 0, 0, 0) := rfl
theorem c_154_146 : mj_code 154 146 = some (.iinc 10 1, 149, 0, 0, 0) := rfl
theorem c_154_149 : mj_code 154 149 = some (.goto (-71), 152, 78, 0, 0) := rfl
theorem c_154_152 : mj_code 154 152 = some (.iinc 9 1, 155, 0, 0, 0) := rfl
theorem c_154_155 : mj_code 154 155 = some (.goto (-116), 158, 39, 0, 0) := rfl
theorem c_154_158 : mj_code 154 158 = some (.iinc 8 1, 161, 0, 0, 0) := rfl
theorem c_154_161 : mj_code 154 161 = some (.goto (-147), 164, 14, 0, 0) := rfl
theorem c_154_164 : mj_code 154 164 = some (.iconst (-1), 165, 0, 0, 0) := rfl
theorem c_154_165 : mj_code 154 165 = some (.ireturn, 166, 0, 0, 0) := rfl
theorem c_155_0 : mj_code 155 0 = some (.aload_n 0, 1, 0, 0, 0) := rfl
theorem c_155_1 : mj_code 155 1 = some (.aload_n 0, 2, 0, 0, 0) := rfl
theorem c_155_2 : mj_code 155 2 = some (.getfield 24, 5, 12, 5, 1057) := rfl
theorem c_155_5 : mj_code 155 5 = some (.iload_n 1, 6, 0, 0, 0) := rfl
theorem c_155_6 : mj_code 155 6 = some (.iaload, 7, 0, 0, 0) := rfl
theorem c_155_7 : mj_code 155 7 = some (.aload_n 0, 8, 0, 0, 0) := rfl
theorem c_155_8 : mj_code 155 8 = some (.getfield 27, 11, 12, 6, 1058) := rfl
theorem c_155_11 : mj_code 155 11 = some (.bipush 27, 13, 0, 0, 0) := rfl
theorem c_155_13 : mj_code 155 13 = some (.iload_n 1, 14, 0, 0, 0) := rfl
theorem c_155_14 : mj_code 155 14 = some (.imul, 15, 0, 0, 0) := rfl
theorem c_155_15 : mj_code 155 15 = some (.iload_n 2, 16, 0, 0, 0) := rfl
theorem c_155_16 : mj_code 155 16 = some (.lload_n 3, 17, 0, 0, 0) := rfl
theorem c_155_17 : mj_code 155 17 = some (.invokevirtual 104, 20, 154, 0, 1184) := rfl
theorem c_155_20 : mj_code 155 20 = some (.iconst (-1), 21, 0, 0, 0) := rfl
theorem c_155_21 : mj_code 155 21 = some (.if_icmp .ne 7, 24, 28, 0, 0) := rfl
theorem c_155_24 : mj_code 155 24 = some (.iconst 1, 25, 0, 0, 0) := rfl
theorem c_155_25 : mj_code 155 25 = some (.goto 4, 28, 29, 0, 0) := rfl
theorem c_155_28 : mj_code 155 28 = some (.iconst 0, 29, 0, 0, 0) := rfl
theorem c_155_29 : mj_code 155 29 = some (.ireturn, 30, 0, 0, 0) := rfl
theorem c_156_0 : mj_code 156 0 = some (.iconst 0, 1, 0, 0, 0) := rfl
theorem c_156_1 : mj_code 156 1 = some (.istore 4, 3, 0, 0, 0) := rfl
theorem c_156_3 : mj_code 156 3 = some (.iload 4, 5, 0, 0, 0) := rfl
theorem c_156_5 : mj_code 156 5 = some (.aload_n 0, 6, 0, 0, 0) := rfl
theorem c_156_6 : mj_code 156 6 = some (.getfield 72, 9, 12, 4, 1056) := rfl
theorem c_156_9 : mj_code 156 9 = some (.if_icmp .ge 22, 12, 31, 0, 0) := rfl
theorem c_156_12 : mj_code 156 12 = some (.aload_n 0, 13, 0, 0, 0) := rfl
theorem c_156_13 : mj_code 156 13 = some (.iload 4, 15, 0, 0, 0) := rfl
theorem c_156_15 : mj_code 156 15 = some (.iload_n 1, 16, 0, 0, 0) := rfl
theorem c_156_16 : mj_code 156 16 = some (.lload_n 2, 17, 0, 0, 0) := rfl
theorem c_156_17 : mj_code 156 17 = some (.invokevirtual 108, 20, 155, 0, 1180) := rfl
theorem c_156_20 : mj_code 156 20 = some (.ifCond .ne 5, 23, 25, 0, 0) := rfl
theorem c_156_23 : mj_code 156 23 = some (.iconst 0, 24, 0, 0, 0) := rfl
theorem c_156_24 : mj_code 156 24 = some (.ireturn, 25, 0, 0, 0) := rfl
theorem c_156_25 : mj_code 156 25 = some (.iinc 4 1, 28, 0, 0, 0) := rfl
theorem c_156_28 : mj_code 156 28 = some (.goto (-25), 31, 3, 0, 0) := rfl
theorem c_156_31 : mj_code 156 31 = some (.iconst 1, 32, 0, 0, 0) := rfl
theorem c_156_32 : mj_code 156 32 = some (.ireturn, 33, 0, 0, 0) := rfl
theorem c_157_0 : mj_code 157 0 = some (.lload_n 2, 1, 0, 0, 0) := rfl
theorem c_157_1 : mj_code 157 1 = some (.lstore 4, 3, 0, 0, 0) := rfl
theorem c_157_3 : mj_code 157 3 = some (.iconst 1, 4, 0, 0, 0) := rfl
theorem c_157_4 : mj_code 157 4 = some (.istore 6, 6, 0, 0, 0) := rfl
theorem c_157_6 : mj_code 157 6 = some (.iload 6, 8, 0, 0, 0) := rfl
theorem c_157_8 : mj_code 157 8 = some (.ifCond .eq 98, 11, 106, 0, 0) := rfl
theorem c_157_11 : mj_code 157 11 = some (.iconst 0, 12, 0, 0, 0) := rfl
theorem c_157_12 : mj_code 157 12 = some (.istore 6, 14, 0, 0, 0) := rfl
theorem c_157_14 : mj_code 157 14 = some (.iconst 0, 15, 0, 0, 0) := rfl
theorem c_157_15 : mj_code 157 15 = some (.istore 7, 17, 0, 0, 0) := rfl
theorem c_157_17 : mj_code 157 17 = some (.iload 7, 19, 0, 0, 0) := rfl
theorem c_157_19 : mj_code 157 19 = some (.aload_n 0, 20, 0, 0, 0) := rfl
theorem c_157_20 : mj_code 157 20 = some (.getfield 72, 23, 12, 4, 1056) := rfl
theorem c_157_23 : mj_code 157 23 = some (.if_icmp .ge 80, 26, 103, 0, 0) := rfl
theorem c_157_26 : mj_code 157 26 = some (.aload_n 0, 27, 0, 0, 0) := rfl
theorem c_157_27 : mj_code 157 27 = some (.aload_n 0, 28, 0, 0, 0) := rfl
theorem c_157_28 : mj_code 157 28 = some (.getfield 24, 31, 12, 5, 1057) := rfl
theorem c_157_31 : mj_code 157 31 = some (.iload 7, 33, 0, 0, 0) := rfl
theorem c_157_33 : mj_code 157 33 = some (.iaload, 34, 0, 0, 0) := rfl
theorem c_157_34 : mj_code 157 34 = some (.aload_n 0, 35, 0, 0, 0) := rfl
theorem c_157_35 : mj_code 157 35 = some (.getfield 27, 38, 12, 6, 1058) := rfl
theorem c_157_38 : mj_code 157 38 = some (.bipush 27, 40, 0, 0, 0) := rfl
theorem c_157_40 : mj_code 157 40 = some (.iload 7, 42, 0, 0, 0) := rfl
theorem c_157_42 : mj_code 157 42 = some (.imul, 43, 0, 0, 0) := rfl
theorem c_157_43 : mj_code 157 43 = some (.iload_n 1, 44, 0, 0, 0) := rfl
theorem c_157_44 : mj_code 157 44 = some (.lload 4, 46, 0, 0, 0) := rfl
theorem c_157_46 : mj_code 157 46 = some (.invokevirtual 104, 49, 154, 0, 1184) := rfl
theorem c_157_49 : mj_code 157 49 = some (.istore 8, 51, 0, 0, 0) := rfl
theorem c_157_51 : mj_code 157 51 = some (.iload 8, 53, 0, 0, 0) := rfl
theorem c_157_53 : mj_code 157 53 = some (.iconst (-1), 54, 0, 0, 0) := rfl
theorem c_157_54 : mj_code 157 54 = some (.if_icmp .eq 43, 57, 97, 0, 0) := rfl
theorem c_157_57 : mj_code 157 57 = some (.lload 4, 59, 0, 0, 0) := rfl
theorem c_157_59 : mj_code 157 59 = some (.lconst 1, 60, 0, 0, 0) := rfl
theorem c_157_60 : mj_code 157 60 = some (.iload 8, 62, 0, 0, 0) := rfl
theorem c_157_62 : mj_code 157 62 = some (.lshl, 63, 0, 0, 0) := rfl
theorem c_157_63 : mj_code 157 63 = some (.lor, 64, 0, 0, 0) := rfl
theorem c_157_64 : mj_code 157 64 = some (.lstore 4, 66, 0, 0, 0) := rfl
theorem c_157_66 : mj_code 157 66 = some (.iconst 1, 67, 0, 0, 0) := rfl
theorem c_157_67 : mj_code 157 67 = some (.istore 6, 69, 0, 0, 0) := rfl
theorem c_157_69 : mj_code 157 69 = some (.aload_n 0, 70, 0, 0, 0) := rfl
theorem c_157_70 : mj_code 157 70 = some (.aload_n 0, 71, 0, 0, 0) := rfl
theorem c_157_71 : mj_code 157 71 = some (.getfield 24, 74, 12, 5, 1057) := rfl
theorem c_157_74 : mj_code 157 74 = some (.iload 7, 76, 0, 0, 0) := rfl
theorem c_157_76 : mj_code 157 76 = some (.iaload, 77, 0, 0, 0) := rfl
theorem c_157_77 : mj_code 157 77 = some (.aload_n 0, 78, 0, 0, 0) := rfl
theorem c_157_78 : mj_code 157 78 = some (.getfield 27, 81, 12, 6, 1058) := rfl
theorem c_157_81 : mj_code 157 81 = some (.bipush 27, 83, 0, 0, 0) := rfl
theorem c_157_83 : mj_code 157 83 = some (.iload 7, 85, 0, 0, 0) := rfl
theorem c_157_85 : mj_code 157 85 = some (.imul, 86, 0, 0, 0) := rfl
theorem c_157_86 : mj_code 157 86 = some (.iload_n 1, 87, 0, 0, 0) := rfl
theorem c_157_87 : mj_code 157 87 = some (.lload 4, 89, 0, 0, 0) := rfl
theorem c_157_89 : mj_code 157 89 = some (.invokevirtual 104, 92, 154, 0, 1184) := rfl
theorem c_157_92 : mj_code 157 92 = some (.istore 8, 94, 0, 0, 0) := rfl
theorem c_157_94 : mj_code 157 94 = some (.goto (-43), 97, 51, 0, 0) := rfl
theorem c_157_97 : mj_code 157 97 = some (.iinc 7 1, 100, 0, 0, 0) := rfl
theorem c_157_100 : mj_code 157 100 = some (.goto (-83), 103, 17, 0, 0) := rfl
theorem c_157_103 : mj_code 157 103 = some (.goto (-97), 106, 6, 0, 0) := rfl
theorem c_157_106 : mj_code 157 106 = some (.lload 4, 108, 0, 0, 0) := rfl
theorem c_157_108 : mj_code 157 108 = some (.lreturn, 109, 0, 0, 0) := rfl
theorem c_158_0 : mj_code 158 0 = some (.iload_n 1, 1, 0, 0, 0) := rfl
theorem c_158_1 : mj_code 158 1 = some (.ifCond .lt 23, 4, 24, 0, 0) := rfl
theorem c_158_4 : mj_code 158 4 = some (.iload_n 1, 5, 0, 0, 0) := rfl
theorem c_158_5 : mj_code 158 5 = some (.aload_n 0, 6, 0, 0, 0) := rfl
theorem c_158_6 : mj_code 158 6 = some (.getfield 72, 9, 12, 4, 1056) := rfl
theorem c_158_9 : mj_code 158 9 = some (.if_icmp .ge 15, 12, 24, 0, 0) := rfl
theorem c_158_12 : mj_code 158 12 = some (.iload_n 2, 13, 0, 0, 0) := rfl
theorem c_158_13 : mj_code 158 13 = some (.ifCond .lt 11, 16, 24, 0, 0) := rfl
theorem c_158_16 : mj_code 158 16 = some (.iload_n 2, 17, 0, 0, 0) := rfl
theorem c_158_17 : mj_code 158 17 = some (.aload_n 0, 18, 0, 0, 0) := rfl
theorem c_158_18 : mj_code 158 18 = some (.getfield 75, 21, 12, 7, 1059) := rfl
theorem c_158_21 : mj_code 158 21 = some (.if_icmp .lt 7, 24, 28, 0, 0) := rfl
theorem c_158_24 : mj_code 158 24 = some (.iconst (-1), 25, 0, 0, 0) := rfl
theorem c_158_25 : mj_code 158 25 = some (.goto 28, 28, 53, 0, 0) := rfl
theorem c_158_28 : mj_code 158 28 = some (.aload_n 0, 29, 0, 0, 0) := rfl
theorem c_158_29 : mj_code 158 29 = some (.iload_n 1, 30, 0, 0, 0) := rfl
theorem c_158_30 : mj_code 158 30 = some (.aload_n 0, 31, 0, 0, 0) := rfl
theorem c_158_31 : mj_code 158 31 = some (.getfield 30, 34, 12, 8, 1060) := rfl
theorem c_158_34 : mj_code 158 34 = some (.iload_n 2, 35, 0, 0, 0) := rfl
theorem c_158_35 : mj_code 158 35 = some (.iaload, 36, 0, 0, 0) := rfl
theorem c_158_36 : mj_code 158 36 = some (.aload_n 0, 37, 0, 0, 0) := rfl
theorem c_158_37 : mj_code 158 37 = some (.getfield 33, 40, 12, 9, 1061) := rfl
theorem c_158_40 : mj_code 158 40 = some (.iload_n 2, 41, 0, 0, 0) := rfl
theorem c_158_41 : mj_code 158 41 = some (.laload, 42, 0, 0, 0) := rfl
theorem c_158_42 : mj_code 158 42 = some (.invokevirtual 108, 45, 155, 0, 1180) := rfl
theorem c_158_45 : mj_code 158 45 = some (.ifCond .eq 7, 48, 52, 0, 0) := rfl
theorem c_158_48 : mj_code 158 48 = some (.iconst 1, 49, 0, 0, 0) := rfl
theorem c_158_49 : mj_code 158 49 = some (.goto 4, 52, 53, 0, 0) := rfl
theorem c_158_52 : mj_code 158 52 = some (.iconst 0, 53, 0, 0, 0) := rfl
theorem c_158_53 : mj_code 158 53 = some (.ireturn, 54, 0, 0, 0) := rfl
theorem c_159_0 : mj_code 159 0 = some (.iload_n 1, 1, 0, 0, 0) := rfl
theorem c_159_1 : mj_code 159 1 = some (.ifCond .lt 11, 4, 12, 0, 0) := rfl
theorem c_159_4 : mj_code 159 4 = some (.iload_n 1, 5, 0, 0, 0) := rfl
theorem c_159_5 : mj_code 159 5 = some (.aload_n 0, 6, 0, 0, 0) := rfl
theorem c_159_6 : mj_code 159 6 = some (.getfield 75, 9, 12, 7, 1059) := rfl
theorem c_159_9 : mj_code 159 9 = some (.if_icmp .lt 9, 12, 18, 0, 0) := rfl
theorem c_159_12 : mj_code 159 12 = some (.ldc2_w 98, 15, 18446744073709551615, 0, 1175) := rfl
theorem c_159_15 : mj_code 159 15 = some (.goto 19, 18, 34, 0, 0) := rfl
theorem c_159_18 : mj_code 159 18 = some (.aload_n 0, 19, 0, 0, 0) := rfl
theorem c_159_19 : mj_code 159 19 = some (.aload_n 0, 20, 0, 0, 0) := rfl
theorem c_159_20 : mj_code 159 20 = some (.getfield 30, 23, 12, 8, 1060) := rfl
theorem c_159_23 : mj_code 159 23 = some (.iload_n 1, 24, 0, 0, 0) := rfl
theorem c_159_24 : mj_code 159 24 = some (.iaload, 25, 0, 0, 0) := rfl
theorem c_159_25 : mj_code 159 25 = some (.aload_n 0, 26, 0, 0, 0) := rfl
theorem c_159_26 : mj_code 159 26 = some (.getfield 33, 29, 12, 9, 1061) := rfl
theorem c_159_29 : mj_code 159 29 = some (.iload_n 1, 30, 0, 0, 0) := rfl
theorem c_159_30 : mj_code 159 30 = some (.laload, 31, 0, 0, 0) := rfl
theorem c_159_31 : mj_code 159 31 = some (.invokevirtual 112, 34, 157, 0, 1196) := rfl
theorem c_159_34 : mj_code 159 34 = some (.lreturn, 35, 0, 0, 0) := rfl
theorem c_160_0 : mj_code 160 0 = some (.iload_n 1, 1, 0, 0, 0) := rfl
theorem c_160_1 : mj_code 160 1 = some (.iconst 1, 2, 0, 0, 0) := rfl
theorem c_160_2 : mj_code 160 2 = some (.if_icmp .lt 8, 5, 10, 0, 0) := rfl
theorem c_160_5 : mj_code 160 5 = some (.iload_n 1, 6, 0, 0, 0) := rfl
theorem c_160_6 : mj_code 160 6 = some (.iconst 2, 7, 0, 0, 0) := rfl
theorem c_160_7 : mj_code 160 7 = some (.if_icmp .le 5, 10, 12, 0, 0) := rfl
theorem c_160_10 : mj_code 160 10 = some (.iconst (-1), 11, 0, 0, 0) := rfl
theorem c_160_11 : mj_code 160 11 = some (.ireturn, 12, 0, 0, 0) := rfl
theorem c_160_12 : mj_code 160 12 = some (.iconst 0, 13, 0, 0, 0) := rfl
theorem c_160_13 : mj_code 160 13 = some (.istore_n 2, 14, 0, 0, 0) := rfl
theorem c_160_14 : mj_code 160 14 = some (.lconst 0, 15, 0, 0, 0) := rfl
theorem c_160_15 : mj_code 160 15 = some (.lstore_n 3, 16, 0, 0, 0) := rfl
theorem c_160_16 : mj_code 160 16 = some (.lload_n 3, 17, 0, 0, 0) := rfl
theorem c_160_17 : mj_code 160 17 = some (.lconst 1, 18, 0, 0, 0) := rfl
theorem c_160_18 : mj_code 160 18 = some (.aload_n 0, 19, 0, 0, 0) := rfl
theorem c_160_19 : mj_code 160 19 = some (.getfield 7, 22, 12, 0, 1052) := rfl
theorem c_160_22 : mj_code 160 22 = some (.iload_n 1, 23, 0, 0, 0) := rfl
theorem c_160_23 : mj_code 160 23 = some (.invokestatic 88, 26, 140, 1, 1155) := rfl
theorem c_160_26 : mj_code 160 26 = some (.lshl, 27, 0, 0, 0) := rfl
theorem c_160_27 : mj_code 160 27 = some (.lcmp, 28, 0, 0, 0) := rfl
theorem c_160_28 : mj_code 160 28 = some (.ifCond .ge 27, 31, 55, 0, 0) := rfl
theorem c_160_31 : mj_code 160 31 = some (.iload_n 2, 32, 0, 0, 0) := rfl
theorem c_160_32 : mj_code 160 32 = some (.aload_n 0, 33, 0, 0, 0) := rfl
theorem c_160_33 : mj_code 160 33 = some (.iload_n 1, 34, 0, 0, 0) := rfl
theorem c_160_34 : mj_code 160 34 = some (.lload_n 3, 35, 0, 0, 0) := rfl
theorem c_160_35 : mj_code 160 35 = some (.invokevirtual 116, 38, 156, 0, 1204) := rfl
theorem c_160_38 : mj_code 160 38 = some (.ifCond .eq 7, 41, 45, 0, 0) := rfl
theorem c_160_41 : mj_code 160 41 = some (.iconst 1, 42, 0, 0, 0) := rfl
theorem c_160_42 : mj_code 160 42 = some (.goto 4, 45, 46, 0, 0) := rfl
theorem c_160_45 : mj_code 160 45 = some (.iconst 0, 46, 0, 0, 0) := rfl
theorem c_160_46 : mj_code 160 46 = some (.iadd, 47, 0, 0, 0) := rfl
theorem c_160_47 : mj_code 160 47 = some (.istore_n 2, 48, 0, 0, 0) := rfl
theorem c_160_48 : mj_code 160 48 = some (.lload_n 3, 49, 0, 0, 0) := rfl
theorem c_160_49 : mj_code 160 49 = some (.lconst 1, 50, 0, 0, 0) := rfl
theorem c_160_50 : mj_code 160 50 = some (.ladd, 51, 0, 0, 0) := rfl
theorem c_160_51 : mj_code 160 51 = some (.lstore_n 3, 52, 0, 0, 0) := rfl
theorem c_160_52 : mj_code 160 52 = some (.goto (-36), 55, 16, 0, 0) := rfl
theorem c_160_55 : mj_code 160 55 = some (.iload_n 2, 56, 0, 0, 0) := rfl
theorem c_160_56 : mj_code 160 56 = some (.ireturn, 57, 0, 0, 0) := rfl
theorem c_161_0 : mj_code 161 0 = some (.iload_n 1, 1, 0, 0, 0) := rfl
theorem c_161_1 : mj_code 161 1 = some (.iconst 1, 2, 0, 0, 0) := rfl
theorem c_161_2 : mj_code 161 2 = some (.if_icmp .lt 24, 5, 26, 0, 0) := rfl
theorem c_161_5 : mj_code 161 5 = some (.iload_n 1, 6, 0, 0, 0) := rfl
theorem c_161_6 : mj_code 161 6 = some (.aload_n 0, 7, 0, 0, 0) := rfl
theorem c_161_7 : mj_code 161 7 = some (.getfield 7, 10, 12, 0, 1052) := rfl
theorem c_161_10 : mj_code 161 10 = some (.iconst 2, 11, 0, 0, 0) := rfl
theorem c_161_11 : mj_code 161 11 = some (.if_icmp .ne 7, 14, 18, 0, 0) := rfl
theorem c_161_14 : mj_code 161 14 = some (.iconst 3, 15, 0, 0, 0) := rfl
theorem c_161_15 : mj_code 161 15 = some (.goto 4, 18, 19, 0, 0) := rfl
theorem c_161_18 : mj_code 161 18 = some (.iconst 2, 19, 0, 0, 0) := rfl
theorem c_161_19 : mj_code 161 19 = some (.if_icmp .gt 7, 22, 26, 0, 0) := rfl
theorem c_161_22 : mj_code 161 22 = some (.iconst 1, 23, 0, 0, 0) := rfl
theorem c_161_23 : mj_code 161 23 = some (.goto 4, 26, 27, 0, 0) := rfl
theorem c_161_26 : mj_code 161 26 = some (.iconst 0, 27, 0, 0, 0) := rfl
theorem c_161_27 : mj_code 161 27 = some (.ireturn, 28, 0, 0, 0) := rfl
theorem c_162_0 : mj_code 162 0 = some (.aload_n 0, 1, 0, 0, 0) := rfl
theorem c_162_1 : mj_code 162 1 = some (.getfield 7, 4, 12, 0, 1052) := rfl
theorem c_162_4 : mj_code 162 4 = some (.iload_n 1, 5, 0, 0, 0) := rfl
theorem c_162_5 : mj_code 162 5 = some (.invokestatic 88, 8, 140, 1, 1155) := rfl
theorem c_162_8 : mj_code 162 8 = some (.ireturn, 9, 0, 0, 0) := rfl
theorem c_163_0 : mj_code 163 0 = some (.aload_n 0, 1, 0, 0, 0) := rfl
theorem c_163_1 : mj_code 163 1 = some (.getfield 24, 4, 12, 5, 1057) := rfl
theorem c_163_4 : mj_code 163 4 = some (.iload_n 1, 5, 0, 0, 0) := rfl
theorem c_163_5 : mj_code 163 5 = some (.iaload, 6, 0, 0, 0) := rfl
theorem c_163_6 : mj_code 163 6 = some (.istore 7, 8, 0, 0, 0) := rfl
theorem c_163_8 : mj_code 163 8 = some (.iconst 0, 9, 0, 0, 0) := rfl
theorem c_163_9 : mj_code 163 9 = some (.istore 8, 11, 0, 0, 0) := rfl
theorem c_163_11 : mj_code 163 11 = some (.iload_n 2, 12, 0, 0, 0) := rfl
theorem c_163_12 : mj_code 163 12 = some (.iconst 1, 13, 0, 0, 0) := rfl
theorem c_163_13 : mj_code 163 13 = some (.isub, 14, 0, 0, 0) := rfl
theorem c_163_14 : mj_code 163 14 = some (.istore 9, 16, 0, 0, 0) := rfl
theorem c_163_16 : mj_code 163 16 = some (.iload 9, 18, 0, 0, 0) := rfl
theorem c_163_18 : mj_code 163 18 = some (.ifCond .lt 103, 21, 121, 0, 0) := rfl
theorem c_163_21 : mj_code 163 21 = some (.aload_n 0, 22, 0, 0, 0) := rfl
theorem c_163_22 : mj_code 163 22 = some (.getfield 57, 25, 12, 18, 1070) := rfl
theorem c_163_25 : mj_code 163 25 = some (.bipush 9, 27, 0, 0, 0) := rfl
theorem c_163_27 : mj_code 163 27 = some (.iload_n 3, 28, 0, 0, 0) := rfl
theorem c_163_28 : mj_code 163 28 = some (.imul, 29, 0, 0, 0) := rfl
theorem c_163_29 : mj_code 163 29 = some (.iload 9, 31, 0, 0, 0) := rfl
theorem c_163_31 : mj_code 163 31 = some (.iadd, 32, 0, 0, 0) := rfl
theorem c_163_32 : mj_code 163 32 = some (.iaload, 33, 0, 0, 0) := rfl
theorem c_163_33 : mj_code 163 33 = some (.istore 10, 35, 0, 0, 0) := rfl
theorem c_163_35 : mj_code 163 35 = some (.iload 7, 37, 0, 0, 0) := rfl
theorem c_163_37 : mj_code 163 37 = some (.iconst 1, 38, 0, 0, 0) := rfl
theorem c_163_38 : mj_code 163 38 = some (.if_icmp .le 26, 41, 64, 0, 0) := rfl
theorem c_163_41 : mj_code 163 41 = some (.iload 10, 43, 0, 0, 0) := rfl
theorem c_163_43 : mj_code 163 43 = some (.aload_n 0, 44, 0, 0, 0) := rfl
theorem c_163_44 : mj_code 163 44 = some (.getfield 7, 47, 12, 0, 1052) := rfl
theorem c_163_47 : mj_code 163 47 = some (.imul, 48, 0, 0, 0) := rfl
theorem c_163_48 : mj_code 163 48 = some (.aload_n 0, 49, 0, 0, 0) := rfl
theorem c_163_49 : mj_code 163 49 = some (.getfield 57, 52, 12, 18, 1070) := rfl
theorem c_163_52 : mj_code 163 52 = some (.bipush 9, 54, 0, 0, 0) := rfl
theorem c_163_54 : mj_code 163 54 = some (.iload 4, 56, 0, 0, 0) := rfl
theorem c_163_56 : mj_code 163 56 = some (.imul, 57, 0, 0, 0) := rfl
theorem c_163_57 : mj_code 163 57 = some (.iload 9, 59, 0, 0, 0) := rfl
theorem c_163_59 : mj_code 163 59 = some (.iadd, 60, 0, 0, 0) := rfl
theorem c_163_60 : mj_code 163 60 = some (.iaload, 61, 0, 0, 0) := rfl
theorem c_163_61 : mj_code 163 61 = some (.iadd, 62, 0, 0, 0) := rfl
theorem c_163_62 : mj_code 163 62 = some (.istore 10, 64, 0, 0, 0) := rfl
theorem c_163_64 : mj_code 163 64 = some (.iload 7, 66, 0, 0, 0) := rfl
theorem c_163_66 : mj_code 163 66 = some (.iconst 2, 67, 0, 0, 0) := rfl
theorem c_163_67 : mj_code 163 67 = some (.if_icmp .le 26, 70, 93, 0, 0) := rfl
theorem c_163_70 : mj_code 163 70 = some (.iload 10, 72, 0, 0, 0) := rfl
theorem c_163_72 : mj_code 163 72 = some (.aload_n 0, 73, 0, 0, 0) := rfl
theorem c_163_73 : mj_code 163 73 = some (.getfield 7, 76, 12, 0, 1052) := rfl
theorem c_163_76 : mj_code 163 76 = some (.imul, 77, 0, 0, 0) := rfl
theorem c_163_77 : mj_code 163 77 = some (.aload_n 0, 78, 0, 0, 0) := rfl
theorem c_163_78 : mj_code 163 78 = some (.getfield 57, 81, 12, 18, 1070) := rfl
theorem c_163_81 : mj_code 163 81 = some (.bipush 9, 83, 0, 0, 0) := rfl
theorem c_163_83 : mj_code 163 83 = some (.iload 5, 85, 0, 0, 0) := rfl
theorem c_163_85 : mj_code 163 85 = some (.imul, 86, 0, 0, 0) := rfl
theorem c_163_86 : mj_code 163 86 = some (.iload 9, 88, 0, 0, 0) := rfl
theorem c_163_88 : mj_code 163 88 = some (.iadd, 89, 0, 0, 0) := rfl
theorem c_163_89 : mj_code 163 89 = some (.iaload, 90, 0, 0, 0) := rfl
theorem c_163_90 : mj_code 163 90 = some (.iadd, 91, 0, 0, 0) := rfl
theorem c_163_91 : mj_code 163 91 = some (.istore 10, 93, 0, 0, 0) := rfl
theorem c_163_93 : mj_code 163 93 = some (.iload 8, 95, 0, 0, 0) := rfl
theorem c_163_95 : mj_code 163 95 = some (.aload_n 0, 96, 0, 0, 0) := rfl
theorem c_163_96 : mj_code 163 96 = some (.getfield 7, 99, 12, 0, 1052) := rfl
theorem c_163_99 : mj_code 163 99 = some (.imul, 100, 0, 0, 0) := rfl
theorem c_163_100 : mj_code 163 100 = some (.aload_n 0, 101, 0, 0, 0) := rfl
theorem c_163_101 : mj_code 163 101 = some (.getfield 27, 104, 12, 6, 1058) := rfl
theorem c_163_104 : mj_code 163 104 = some (.bipush 27, 106, 0, 0, 0) := rfl
theorem c_163_106 : mj_code 163 106 = some (.iload_n 1, 107, 0, 0, 0) := rfl
theorem c_163_107 : mj_code 163 107 = some (.imul, 108, 0, 0, 0) := rfl
theorem c_163_108 : mj_code 163 108 = some (.iload 10, 110, 0, 0, 0) := rfl
theorem c_163_110 : mj_code 163 110 = some (.iadd, 111, 0, 0, 0) := rfl
theorem c_163_111 : mj_code 163 111 = some (.iaload, 112, 0, 0, 0) := rfl
theorem c_163_112 : mj_code 163 112 = some (.iadd, 113, 0, 0, 0) := rfl
theorem c_163_113 : mj_code 163 113 = some (.istore 8, 115, 0, 0, 0) := rfl
theorem c_163_115 : mj_code 163 115 = some (.iinc 9 (-1), 118, 0, 0, 0) := rfl
theorem c_163_118 : mj_code 163 118 = some (.goto (-102), 121, 16, 0, 0) := rfl
theorem c_163_121 : mj_code 163 121 = some (.aload_n 0, 122, 0, 0, 0) := rfl
theorem c_163_122 : mj_code 163 122 = some (.getfield 54, 125, 12, 17, 1069) := rfl
theorem c_163_125 : mj_code 163 125 = some (.iload 8, 127, 0, 0, 0) := rfl
theorem c_163_127 : mj_code 163 127 = some (.iaload, 128, 0, 0, 0) := rfl
theorem c_163_128 : mj_code 163 128 = some (.ifCond .eq 17, 131, 145, 0, 0) := rfl
theorem c_163_131 : mj_code 163 131 = some (.aload_n 0, 132, 0, 0, 0) := rfl
theorem c_163_132 : mj_code 163 132 = some (.getfield 54, 135, 12, 17, 1069) := rfl
theorem c_163_135 : mj_code 163 135 = some (.iload 8, 137, 0, 0, 0) := rfl
theorem c_163_137 : mj_code 163 137 = some (.iaload, 138, 0, 0, 0) := rfl
theorem c_163_138 : mj_code 163 138 = some (.iload 6, 140, 0, 0, 0) := rfl
theorem c_163_140 : mj_code 163 140 = some (.iconst 1, 141, 0, 0, 0) := rfl
theorem c_163_141 : mj_code 163 141 = some (.iadd, 142, 0, 0, 0) := rfl
theorem c_163_142 : mj_code 163 142 = some (.if_icmp .le 14, 145, 156, 0, 0) := rfl
theorem c_163_145 : mj_code 163 145 = some (.aload_n 0, 146, 0, 0, 0) := rfl
theorem c_163_146 : mj_code 163 146 = some (.getfield 54, 149, 12, 17, 1069) := rfl
theorem c_163_149 : mj_code 163 149 = some (.iload 8, 151, 0, 0, 0) := rfl
theorem c_163_151 : mj_code 163 151 = some (.iload 6, 153, 0, 0, 0) := rfl
theorem c_163_153 : mj_code 163 153 = some (.iconst 1, 154, 0, 0, 0) := rfl
theorem c_163_154 : mj_code 163 154 = some (.iadd, 155, 0, 0, 0) := rfl
theorem c_163_155 : mj_code 163 155 = some (.iastore, 156, 0, 0, 0) := rfl
theorem c_163_156 : mj_code 163 156 = some (.return_, 157, 0, 0, 0) := rfl
theorem c_164_0 : mj_code 164 0 = some (.aload_n 0, 1, 0, 0, 0) := rfl
theorem c_164_1 : mj_code 164 1 = some (.getfield 48, 4, 12, 15, 1067) := rfl
theorem c_164_4 : mj_code 164 4 = some (.sipush 256, 7, 0, 0, 0) := rfl
theorem c_164_7 : mj_code 164 7 = some (.iload_n 1, 8, 0, 0, 0) := rfl
theorem c_164_8 : mj_code 164 8 = some (.imul, 9, 0, 0, 0) := rfl
theorem c_164_9 : mj_code 164 9 = some (.iload_n 2, 10, 0, 0, 0) := rfl
theorem c_164_10 : mj_code 164 10 = some (.iadd, 11, 0, 0, 0) := rfl
theorem c_164_11 : mj_code 164 11 = some (.iaload, 12, 0, 0, 0) := rfl
theorem c_164_12 : mj_code 164 12 = some (.ireturn, 13, 0, 0, 0) := rfl
theorem c_165_0 : mj_code 165 0 = some (.aload_n 0, 1, 0, 0, 0) := rfl
theorem c_165_1 : mj_code 165 1 = some (.iload_n 1, 2, 0, 0, 0) := rfl
theorem c_165_2 : mj_code 165 2 = some (.iload_n 3, 3, 0, 0, 0) := rfl
theorem c_165_3 : mj_code 165 3 = some (.invokevirtual 120, 6, 164, 0, 1232) := rfl
theorem c_165_6 : mj_code 165 6 = some (.istore 4, 8, 0, 0, 0) := rfl
theorem c_165_8 : mj_code 165 8 = some (.iconst 0, 9, 0, 0, 0) := rfl
theorem c_165_9 : mj_code 165 9 = some (.istore 5, 11, 0, 0, 0) := rfl
theorem c_165_11 : mj_code 165 11 = some (.iload 5, 13, 0, 0, 0) := rfl
theorem c_165_13 : mj_code 165 13 = some (.aload_n 0, 14, 0, 0, 0) := rfl
theorem c_165_14 : mj_code 165 14 = some (.getfield 72, 17, 12, 4, 1056) := rfl
theorem c_165_17 : mj_code 165 17 = some (.if_icmp .ge 190, 20, 207, 0, 0) := rfl
theorem c_165_20 : mj_code 165 20 = some (.aload_n 0, 21, 0, 0, 0) := rfl
theorem c_165_21 : mj_code 165 21 = some (.getfield 24, 24, 12, 5, 1057) := rfl
theorem c_165_24 : mj_code 165 24 = some (.iload 5, 26, 0, 0, 0) := rfl
theorem c_165_26 : mj_code 165 26 = some (.iaload, 27, 0, 0, 0) := rfl
theorem c_165_27 : mj_code 165 27 = some (.iconst 1, 28, 0, 0, 0) := rfl
theorem c_165_28 : mj_code 165 28 = some (.if_icmp .ne 25, 31, 53, 0, 0) := rfl
theorem c_165_31 : mj_code 165 31 = some (.aload_n 0, 32, 0, 0, 0) := rfl
theorem c_165_32 : mj_code 165 32 = some (.iload 5, 34, 0, 0, 0) := rfl
theorem c_165_34 : mj_code 165 34 = some (.iload_n 2, 35, 0, 0, 0) := rfl
theorem c_165_35 : mj_code 165 35 = some (.iload_n 3, 36, 0, 0, 0) := rfl
theorem c_165_36 : mj_code 165 36 = some (.iconst 0, 37, 0, 0, 0) := rfl
theorem c_165_37 : mj_code 165 37 = some (.iconst 0, 38, 0, 0, 0) := rfl
theorem c_165_38 : mj_code 165 38 = some (.ldc 123, 40, 1000000, 0, 1240) := rfl
theorem c_165_40 : mj_code 165 40 = some (.iload 4, 42, 0, 0, 0) := rfl
theorem c_165_42 : mj_code 165 42 = some (.iconst 1, 43, 0, 0, 0) := rfl
theorem c_165_43 : mj_code 165 43 = some (.iadd, 44, 0, 0, 0) := rfl
theorem c_165_44 : mj_code 165 44 = some (.invokestatic 124, 47, 206, 1, 1241) := rfl
theorem c_165_47 : mj_code 165 47 = some (.invokevirtual 129, 50, 163, 0, 1242) := rfl
theorem c_165_50 : mj_code 165 50 = some (.goto 151, 53, 201, 0, 0) := rfl
theorem c_165_53 : mj_code 165 53 = some (.iconst 0, 54, 0, 0, 0) := rfl
theorem c_165_54 : mj_code 165 54 = some (.istore 6, 56, 0, 0, 0) := rfl
theorem c_165_56 : mj_code 165 56 = some (.iload 6, 58, 0, 0, 0) := rfl
theorem c_165_58 : mj_code 165 58 = some (.iload_n 3, 59, 0, 0, 0) := rfl
theorem c_165_59 : mj_code 165 59 = some (.if_icmp .gt 142, 62, 201, 0, 0) := rfl
theorem c_165_62 : mj_code 165 62 = some (.ldc 123, 64, 1000000, 0, 1240) := rfl
theorem c_165_64 : mj_code 165 64 = some (.iload 4, 66, 0, 0, 0) := rfl
theorem c_165_66 : mj_code 165 66 = some (.aload_n 0, 67, 0, 0, 0) := rfl
theorem c_165_67 : mj_code 165 67 = some (.iload_n 1, 68, 0, 0, 0) := rfl
theorem c_165_68 : mj_code 165 68 = some (.iload 6, 70, 0, 0, 0) := rfl
theorem c_165_70 : mj_code 165 70 = some (.invokevirtual 120, 73, 164, 0, 1232) := rfl
theorem c_165_73 : mj_code 165 73 = some (.iadd, 74, 0, 0, 0) := rfl
theorem c_165_74 : mj_code 165 74 = some (.iconst 1, 75, 0, 0, 0) := rfl
theorem c_165_75 : mj_code 165 75 = some (.iadd, 76, 0, 0, 0) := rfl
theorem c_165_76 : mj_code 165 76 = some (.invokestatic 124, 79, 206, 1, 1241) := rfl
theorem c_165_79 : mj_code 165 79 = some (.istore 7, 81, 0, 0, 0) := rfl
theorem c_165_81 : mj_code 165 81 = some (.aload_n 0, 82, 0, 0, 0) := rfl
theorem c_165_82 : mj_code 165 82 = some (.getfield 24, 85, 12, 5, 1057) := rfl
theorem c_165_85 : mj_code 165 85 = some (.iload 5, 87, 0, 0, 0) := rfl
theorem c_165_87 : mj_code 165 87 = some (.iaload, 88, 0, 0, 0) := rfl
theorem c_165_88 : mj_code 165 88 = some (.iconst 2, 89, 0, 0, 0) := rfl
theorem c_165_89 : mj_code 165 89 = some (.if_icmp .ne 32, 92, 121, 0, 0) := rfl
theorem c_165_92 : mj_code 165 92 = some (.aload_n 0, 93, 0, 0, 0) := rfl
theorem c_165_93 : mj_code 165 93 = some (.iload 5, 95, 0, 0, 0) := rfl
theorem c_165_95 : mj_code 165 95 = some (.iload_n 2, 96, 0, 0, 0) := rfl
theorem c_165_96 : mj_code 165 96 = some (.iload_n 3, 97, 0, 0, 0) := rfl
theorem c_165_97 : mj_code 165 97 = some (.iload 6, 99, 0, 0, 0) := rfl
theorem c_165_99 : mj_code 165 99 = some (.iconst 0, 100, 0, 0, 0) := rfl
theorem c_165_100 : mj_code 165 100 = some (.iload 7, 102, 0, 0, 0) := rfl
theorem c_165_102 : mj_code 165 102 = some (.invokevirtual 129, 105, 163, 0, 1242) := rfl
theorem c_165_105 : mj_code 165 105 = some (.aload_n 0, 106, 0, 0, 0) := rfl
theorem c_165_106 : mj_code 165 106 = some (.iload 5, 108, 0, 0, 0) := rfl
theorem c_165_108 : mj_code 165 108 = some (.iload_n 2, 109, 0, 0, 0) := rfl
theorem c_165_109 : mj_code 165 109 = some (.iload 6, 111, 0, 0, 0) := rfl
theorem c_165_111 : mj_code 165 111 = some (.iload_n 3, 112, 0, 0, 0) := rfl
theorem c_165_112 : mj_code 165 112 = some (.iconst 0, 113, 0, 0, 0) := rfl
theorem c_165_113 : mj_code 165 113 = some (.iload 7, 115, 0, 0, 0) := rfl
theorem c_165_115 : mj_code 165 115 = some (.invokevirtual 129, 118, 163, 0, 1242) := rfl
theorem c_165_118 : mj_code 165 118 = some (.goto 77, 121, 195, 0, 0) := rfl
theorem c_165_121 : mj_code 165 121 = some (.iconst 0, 122, 0, 0, 0) := rfl
theorem c_165_122 : mj_code 165 122 = some (.istore 8, 124, 0, 0, 0) := rfl
theorem c_165_124 : mj_code 165 124 = some (.iload 8, 126, 0, 0, 0) := rfl
theorem c_165_126 : mj_code 165 126 = some (.iload_n 3, 127, 0, 0, 0) := rfl
theorem c_165_127 : mj_code 165 127 = some (.if_icmp .gt 68, 130, 195, 0, 0) := rfl
theorem c_165_130 : mj_code 165 130 = some (.ldc 123, 132, 1000000, 0, 1240) := rfl
theorem c_165_132 : mj_code 165 132 = some (.iload 7, 134, 0, 0, 0) := rfl
theorem c_165_134 : mj_code 165 134 = some (.aload_n 0, 135, 0, 0, 0) := rfl
theorem c_165_135 : mj_code 165 135 = some (.iload_n 1, 136, 0, 0, 0) := rfl
theorem c_165_136 : mj_code 165 136 = some (.iload 8, 138, 0, 0, 0) := rfl
theorem c_165_138 : mj_code 165 138 = some (.invokevirtual 120, 141, 164, 0, 1232) := rfl
theorem c_165_141 : mj_code 165 141 = some (.iadd, 142, 0, 0, 0) := rfl
theorem c_165_142 : mj_code 165 142 = some (.invokestatic 124, 145, 206, 1, 1241) := rfl
theorem c_165_145 : mj_code 165 145 = some (.istore 9, 147, 0, 0, 0) := rfl
theorem c_165_147 : mj_code 165 147 = some (.aload_n 0, 148, 0, 0, 0) := rfl
theorem c_165_148 : mj_code 165 148 = some (.iload 5, 150, 0, 0, 0) := rfl
theorem c_165_150 : mj_code 165 150 = some (.iload_n 2, 151, 0, 0, 0) := rfl
theorem c_165_151 : mj_code 165 151 = some (.iload_n 3, 152, 0, 0, 0) := rfl
theorem c_165_152 : mj_code 165 152 = some (.iload 6, 154, 0, 0, 0) := rfl
theorem c_165_154 : mj_code 165 154 = some (.iload 8, 156, 0, 0, 0) := rfl
theorem c_165_156 : mj_code 165 156 = some (.iload 9, 158, 0, 0, 0) := rfl
theorem c_165_158 : mj_code 165 158 = some (.invokevirtual 129, 161, 163, 0, 1242) := rfl
theorem c_165_161 : mj_code 165 161 = some (.aload_n 0, 162, 0, 0, 0) := rfl
theorem c_165_162 : mj_code 165 162 = some (.iload 5, 164, 0, 0, 0) := rfl
theorem c_165_164 : mj_code 165 164 = some (.iload_n 2, 165, 0, 0, 0) := rfl
theorem c_165_165 : mj_code 165 165 = some (.iload 6, 167, 0, 0, 0) := rfl
theorem c_165_167 : mj_code 165 167 = some (.iload_n 3, 168, 0, 0, 0) := rfl
theorem c_165_168 : mj_code 165 168 = some (.iload 8, 170, 0, 0, 0) := rfl
theorem c_165_170 : mj_code 165 170 = some (.iload 9, 172, 0, 0, 0) := rfl
theorem c_165_172 : mj_code 165 172 = some (.invokevirtual 129, 175, 163, 0, 1242) := rfl
theorem c_165_175 : mj_code 165 175 = some (.aload_n 0, 176, 0, 0, 0) := rfl
theorem c_165_176 : mj_code 165 176 = some (.iload 5, 178, 0, 0, 0) := rfl
theorem c_165_178 : mj_code 165 178 = some (.iload_n 2, 179, 0, 0, 0) := rfl
theorem c_165_179 : mj_code 165 179 = some (.iload 6, 181, 0, 0, 0) := rfl
theorem c_165_181 : mj_code 165 181 = some (.iload 8, 183, 0, 0, 0) := rfl
theorem c_165_183 : mj_code 165 183 = some (.iload_n 3, 184, 0, 0, 0) := rfl
theorem c_165_184 : mj_code 165 184 = some (.iload 9, 186, 0, 0, 0) := rfl
theorem c_165_186 : mj_code 165 186 = some (.invokevirtual 129, 189, 163, 0, 1242) := rfl
theorem c_165_189 : mj_code 165 189 = some (.iinc 8 1, 192, 0, 0, 0) := rfl
theorem c_165_192 : mj_code 165 192 = some (.goto (-68), 195, 124, 0, 0) := rfl
theorem c_165_195 : mj_code 165 195 = some (.iinc 6 1, 198, 0, 0, 0) := rfl
theorem c_165_198 : mj_code 165 198 = some (.goto (-142), 201, 56, 0, 0) := rfl
theorem c_165_201 : mj_code 165 201 = some (.iinc 5 1, 204, 0, 0, 0) := rfl
theorem c_165_204 : mj_code 165 204 = some (.goto (-193), 207, 11, 0, 0) := rfl
theorem c_165_207 : mj_code 165 207 = some (.return_, 208, 0, 0, 0) := rfl
theorem c_166_0 : mj_code 166 0 = some (.iconst 1, 1, 0, 0, 0) := rfl
theorem c_166_1 : mj_code 166 1 = some (.istore_n 3, 2, 0, 0, 0) := rfl
theorem c_166_2 : mj_code 166 2 = some (.iload_n 3, 3, 0, 0, 0) := rfl
theorem c_166_3 : mj_code 166 3 = some (.iload_n 2, 4, 0, 0, 0) := rfl
theorem c_166_4 : mj_code 166 4 = some (.if_icmp .ge 185, 7, 189, 0, 0) := rfl
theorem c_166_7 : mj_code 166 7 = some (.aload_n 0, 8, 0, 0, 0) := rfl
theorem c_166_8 : mj_code 166 8 = some (.getfield 45, 11, 12, 14, 1066) := rfl
theorem c_166_11 : mj_code 166 11 = some (.sipush 256, 14, 0, 0, 0) := rfl
theorem c_166_14 : mj_code 166 14 = some (.iload_n 1, 15, 0, 0, 0) := rfl
theorem c_166_15 : mj_code 166 15 = some (.imul, 16, 0, 0, 0) := rfl
theorem c_166_16 : mj_code 166 16 = some (.iload_n 3, 17, 0, 0, 0) := rfl
theorem c_166_17 : mj_code 166 17 = some (.iadd, 18, 0, 0, 0) := rfl
theorem c_166_18 : mj_code 166 18 = some (.iaload, 19, 0, 0, 0) := rfl
theorem c_166_19 : mj_code 166 19 = some (.istore 4, 21, 0, 0, 0) := rfl
theorem c_166_21 : mj_code 166 21 = some (.aload_n 0, 22, 0, 0, 0) := rfl
theorem c_166_22 : mj_code 166 22 = some (.getfield 48, 25, 12, 15, 1067) := rfl
theorem c_166_25 : mj_code 166 25 = some (.sipush 256, 28, 0, 0, 0) := rfl
theorem c_166_28 : mj_code 166 28 = some (.iload_n 1, 29, 0, 0, 0) := rfl
theorem c_166_29 : mj_code 166 29 = some (.imul, 30, 0, 0, 0) := rfl
theorem c_166_30 : mj_code 166 30 = some (.iload_n 3, 31, 0, 0, 0) := rfl
theorem c_166_31 : mj_code 166 31 = some (.iadd, 32, 0, 0, 0) := rfl
theorem c_166_32 : mj_code 166 32 = some (.iaload, 33, 0, 0, 0) := rfl
theorem c_166_33 : mj_code 166 33 = some (.istore 5, 35, 0, 0, 0) := rfl
theorem c_166_35 : mj_code 166 35 = some (.iload_n 3, 36, 0, 0, 0) := rfl
theorem c_166_36 : mj_code 166 36 = some (.istore 6, 38, 0, 0, 0) := rfl
theorem c_166_38 : mj_code 166 38 = some (.iload 6, 40, 0, 0, 0) := rfl
theorem c_166_40 : mj_code 166 40 = some (.ifCond .le 113, 43, 153, 0, 0) := rfl
theorem c_166_43 : mj_code 166 43 = some (.aload_n 0, 44, 0, 0, 0) := rfl
theorem c_166_44 : mj_code 166 44 = some (.iload_n 1, 45, 0, 0, 0) := rfl
theorem c_166_45 : mj_code 166 45 = some (.iload 6, 47, 0, 0, 0) := rfl
theorem c_166_47 : mj_code 166 47 = some (.iconst 1, 48, 0, 0, 0) := rfl
theorem c_166_48 : mj_code 166 48 = some (.isub, 49, 0, 0, 0) := rfl
theorem c_166_49 : mj_code 166 49 = some (.invokevirtual 120, 52, 164, 0, 1232) := rfl
theorem c_166_52 : mj_code 166 52 = some (.iload 5, 54, 0, 0, 0) := rfl
theorem c_166_54 : mj_code 166 54 = some (.if_icmp .gt 37, 57, 91, 0, 0) := rfl
theorem c_166_57 : mj_code 166 57 = some (.aload_n 0, 58, 0, 0, 0) := rfl
theorem c_166_58 : mj_code 166 58 = some (.iload_n 1, 59, 0, 0, 0) := rfl
theorem c_166_59 : mj_code 166 59 = some (.iload 6, 61, 0, 0, 0) := rfl
theorem c_166_61 : mj_code 166 61 = some (.iconst 1, 62, 0, 0, 0) := rfl
theorem c_166_62 : mj_code 166 62 = some (.isub, 63, 0, 0, 0) := rfl
theorem c_166_63 : mj_code 166 63 = some (.invokevirtual 120, 66, 164, 0, 1232) := rfl
theorem c_166_66 : mj_code 166 66 = some (.iload 5, 68, 0, 0, 0) := rfl
theorem c_166_68 : mj_code 166 68 = some (.if_icmp .ne 85, 71, 153, 0, 0) := rfl
theorem c_166_71 : mj_code 166 71 = some (.aload_n 0, 72, 0, 0, 0) := rfl
theorem c_166_72 : mj_code 166 72 = some (.getfield 45, 75, 12, 14, 1066) := rfl
theorem c_166_75 : mj_code 166 75 = some (.sipush 256, 78, 0, 0, 0) := rfl
theorem c_166_78 : mj_code 166 78 = some (.iload_n 1, 79, 0, 0, 0) := rfl
theorem c_166_79 : mj_code 166 79 = some (.imul, 80, 0, 0, 0) := rfl
theorem c_166_80 : mj_code 166 80 = some (.iload 6, 82, 0, 0, 0) := rfl
theorem c_166_82 : mj_code 166 82 = some (.iadd, 83, 0, 0, 0) := rfl
theorem c_166_83 : mj_code 166 83 = some (.iconst 1, 84, 0, 0, 0) := rfl
theorem c_166_84 : mj_code 166 84 = some (.isub, 85, 0, 0, 0) := rfl
theorem c_166_85 : mj_code 166 85 = some (.iaload, 86, 0, 0, 0) := rfl
theorem c_166_86 : mj_code 166 86 = some (.iload 4, 88, 0, 0, 0) := rfl
theorem c_166_88 : mj_code 166 88 = some (.if_icmp .le 65, 91, 153, 0, 0) := rfl
theorem c_166_91 : mj_code 166 91 = some (.aload_n 0, 92, 0, 0, 0) := rfl
theorem c_166_92 : mj_code 166 92 = some (.getfield 45, 95, 12, 14, 1066) := rfl
theorem c_166_95 : mj_code 166 95 = some (.sipush 256, 98, 0, 0, 0) := rfl
theorem c_166_98 : mj_code 166 98 = some (.iload_n 1, 99, 0, 0, 0) := rfl
theorem c_166_99 : mj_code 166 99 = some (.imul, 100, 0, 0, 0) := rfl
theorem c_166_100 : mj_code 166 100 = some (.iload 6, 102, 0, 0, 0) := rfl
theorem c_166_102 : mj_code 166 102 = some (.iadd, 103, 0, 0, 0) := rfl
theorem c_166_103 : mj_code 166 103 = some (.aload_n 0, 104, 0, 0, 0) := rfl
theorem c_166_104 : mj_code 166 104 = some (.getfield 45, 107, 12, 14, 1066) := rfl
theorem c_166_107 : mj_code 166 107 = some (.sipush 256, 110, 0, 0, 0) := rfl
theorem c_166_110 : mj_code 166 110 = some (.iload_n 1, 111, 0, 0, 0) := rfl
theorem c_166_111 : mj_code 166 111 = some (.imul, 112, 0, 0, 0) := rfl
theorem c_166_112 : mj_code 166 112 = some (.iload 6, 114, 0, 0, 0) := rfl
theorem c_166_114 : mj_code 166 114 = some (.iadd, 115, 0, 0, 0) := rfl
theorem c_166_115 : mj_code 166 115 = some (.iconst 1, 116, 0, 0, 0) := rfl
theorem c_166_116 : mj_code 166 116 = some (.isub, 117, 0, 0, 0) := rfl
theorem c_166_117 : mj_code 166 117 = some (.iaload, 118, 0, 0, 0) := rfl
theorem c_166_118 : mj_code 166 118 = some (.iastore, 119, 0, 0, 0) := rfl
theorem c_166_119 : mj_code 166 119 = some (.aload_n 0, 120, 0, 0, 0) := rfl
theorem c_166_120 : mj_code 166 120 = some (.getfield 48, 123, 12, 15, 1067) := rfl
theorem c_166_123 : mj_code 166 123 = some (.sipush 256, 126, 0, 0, 0) := rfl
theorem c_166_126 : mj_code 166 126 = some (.iload_n 1, 127, 0, 0, 0) := rfl
theorem c_166_127 : mj_code 166 127 = some (.imul, 128, 0, 0, 0) := rfl
theorem c_166_128 : mj_code 166 128 = some (.iload 6, 130, 0, 0, 0) := rfl
theorem c_166_130 : mj_code 166 130 = some (.iadd, 131, 0, 0, 0) := rfl
theorem c_166_131 : mj_code 166 131 = some (.aload_n 0, 132, 0, 0, 0) := rfl
theorem c_166_132 : mj_code 166 132 = some (.getfield 48, 135, 12, 15, 1067) := rfl
theorem c_166_135 : mj_code 166 135 = some (.sipush 256, 138, 0, 0, 0) := rfl
theorem c_166_138 : mj_code 166 138 = some (.iload_n 1, 139, 0, 0, 0) := rfl
theorem c_166_139 : mj_code 166 139 = some (.imul, 140, 0, 0, 0) := rfl
theorem c_166_140 : mj_code 166 140 = some (.iload 6, 142, 0, 0, 0) := rfl
theorem c_166_142 : mj_code 166 142 = some (.iadd, 143, 0, 0, 0) := rfl
theorem c_166_143 : mj_code 166 143 = some (.iconst 1, 144, 0, 0, 0) := rfl
theorem c_166_144 : mj_code 166 144 = some (.isub, 145, 0, 0, 0) := rfl
theorem c_166_145 : mj_code 166 145 = some (.iaload, 146, 0, 0, 0) := rfl
theorem c_166_146 : mj_code 166 146 = some (.iastore, 147, 0, 0, 0) := rfl
theorem c_166_147 : mj_code 166 147 = some (.iinc 6 (-1), 150, 0, 0, 0) := rfl
theorem c_166_150 : mj_code 166 150 = some (.goto (-112), 153, 38, 0, 0) := rfl
theorem c_166_153 : mj_code 166 153 = some (.aload_n 0, 154, 0, 0, 0) := rfl
theorem c_166_154 : mj_code 166 154 = some (.getfield 45, 157, 12, 14, 1066) := rfl
theorem c_166_157 : mj_code 166 157 = some (.sipush 256, 160, 0, 0, 0) := rfl
theorem c_166_160 : mj_code 166 160 = some (.iload_n 1, 161, 0, 0, 0) := rfl
theorem c_166_161 : mj_code 166 161 = some (.imul, 162, 0, 0, 0) := rfl
theorem c_166_162 : mj_code 166 162 = some (.iload 6, 164, 0, 0, 0) := rfl
theorem c_166_164 : mj_code 166 164 = some (.iadd, 165, 0, 0, 0) := rfl
theorem c_166_165 : mj_code 166 165 = some (.iload 4, 167, 0, 0, 0) := rfl
theorem c_166_167 : mj_code 166 167 = some (.iastore, 168, 0, 0, 0) := rfl
theorem c_166_168 : mj_code 166 168 = some (.aload_n 0, 169, 0, 0, 0) := rfl
theorem c_166_169 : mj_code 166 169 = some (.getfield 48, 172, 12, 15, 1067) := rfl
theorem c_166_172 : mj_code 166 172 = some (.sipush 256, 175, 0, 0, 0) := rfl
theorem c_166_175 : mj_code 166 175 = some (.iload_n 1, 176, 0, 0, 0) := rfl
theorem c_166_176 : mj_code 166 176 = some (.imul, 177, 0, 0, 0) := rfl
theorem c_166_177 : mj_code 166 177 = some (.iload 6, 179, 0, 0, 0) := rfl
theorem c_166_179 : mj_code 166 179 = some (.iadd, 180, 0, 0, 0) := rfl
theorem c_166_180 : mj_code 166 180 = some (.iload 5, 182, 0, 0, 0) := rfl
theorem c_166_182 : mj_code 166 182 = some (.iastore, 183, 0, 0, 0) := rfl
theorem c_166_183 : mj_code 166 183 = some (.iinc 3 1, 186, 0, 0, 0) := rfl
theorem c_166_186 : mj_code 166 186 = some (.goto (-184), 189, 2, 0, 0) := rfl
theorem c_166_189 : mj_code 166 189 = some (.return_, 190, 0, 0, 0) := rfl
