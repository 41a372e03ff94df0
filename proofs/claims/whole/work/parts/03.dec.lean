theorem dX0_init_0 : decode cX0_init 0 = .ok (.aload_n 0, 1) := by decide +kernel
theorem dX0_init_1 : decode cX0_init 1 = .ok (.invokespecial 3, 3) := by decide +kernel
theorem dX0_init_4 : decode cX0_init 4 = .ok (.aload_n 0, 1) := by decide +kernel
theorem dX0_init_5 : decode cX0_init 5 = .ok (.bipush 63, 2) := by decide +kernel
theorem dX0_init_7 : decode cX0_init 7 = .ok (.newarray .long, 2) := by decide +kernel
theorem dX0_init_9 : decode cX0_init 9 = .ok (.putfield 9, 3) := by decide +kernel
theorem dX0_init_12 : decode cX0_init 12 = .ok (.return_, 1) := by decide +kernel
theorem dX0_become_0 : decode cX0_become 0 = .ok (.iconst 0, 1) := by decide +kernel
theorem dX0_become_1 : decode cX0_become 1 = .ok (.istore_n 3, 1) := by decide +kernel
theorem dX0_become_2 : decode cX0_become 2 = .ok (.iload_n 3, 1) := by decide +kernel
theorem dX0_become_3 : decode cX0_become 3 = .ok (.aload_n 0, 1) := by decide +kernel
theorem dX0_become_4 : decode cX0_become 4 = .ok (.getfield 15, 3) := by decide +kernel
theorem dX0_become_7 : decode cX0_become 7 = .ok (.if_icmp .ge 16, 3) := by decide +kernel
theorem dX0_become_10 : decode cX0_become 10 = .ok (.aload_n 0, 1) := by decide +kernel
theorem dX0_become_11 : decode cX0_become 11 = .ok (.getfield 9, 3) := by decide +kernel
theorem dX0_become_14 : decode cX0_become 14 = .ok (.iload_n 3, 1) := by decide +kernel
theorem dX0_become_15 : decode cX0_become 15 = .ok (.lconst 0, 1) := by decide +kernel
theorem dX0_become_16 : decode cX0_become 16 = .ok (.lastore, 1) := by decide +kernel
theorem dX0_become_17 : decode cX0_become 17 = .ok (.iinc 3 1, 3) := by decide +kernel
theorem dX0_become_20 : decode cX0_become 20 = .ok (.goto (-18), 3) := by decide +kernel
theorem dX0_become_23 : decode cX0_become 23 = .ok (.aload_n 0, 1) := by decide +kernel
theorem dX0_become_24 : decode cX0_become 24 = .ok (.iconst 0, 1) := by decide +kernel
theorem dX0_become_25 : decode cX0_become 25 = .ok (.putfield 15, 3) := by decide +kernel
theorem dX0_become_28 : decode cX0_become 28 = .ok (.aload_n 0, 1) := by decide +kernel
theorem dX0_become_29 : decode cX0_become 29 = .ok (.lload_n 1, 1) := by decide +kernel
theorem dX0_become_30 : decode cX0_become 30 = .ok (.putfield 19, 3) := by decide +kernel
theorem dX0_become_33 : decode cX0_become 33 = .ok (.return_, 1) := by decide +kernel
theorem dX0_add_0 : decode cX0_add 0 = .ok (.aload_n 0, 1) := by decide +kernel
theorem dX0_add_1 : decode cX0_add 1 = .ok (.dup, 1) := by decide +kernel
theorem dX0_add_2 : decode cX0_add 2 = .ok (.getfield 19, 3) := by decide +kernel
theorem dX0_add_5 : decode cX0_add 5 = .ok (.lload_n 2, 1) := by decide +kernel
theorem dX0_add_6 : decode cX0_add 6 = .ok (.aload_n 1, 1) := by decide +kernel
theorem dX0_add_7 : decode cX0_add 7 = .ok (.getfield 19, 3) := by decide +kernel
theorem dX0_add_10 : decode cX0_add 10 = .ok (.lmul, 1) := by decide +kernel
theorem dX0_add_11 : decode cX0_add 11 = .ok (.ladd, 1) := by decide +kernel
theorem dX0_add_12 : decode cX0_add 12 = .ok (.putfield 19, 3) := by decide +kernel
theorem dX0_add_15 : decode cX0_add 15 = .ok (.aload_n 0, 1) := by decide +kernel
theorem dX0_add_16 : decode cX0_add 16 = .ok (.aload_n 1, 1) := by decide +kernel
theorem dX0_add_17 : decode cX0_add 17 = .ok (.lload_n 2, 1) := by decide +kernel
theorem dX0_add_18 : decode cX0_add 18 = .ok (.invokevirtual 23, 3) := by decide +kernel
theorem dX0_add_21 : decode cX0_add 21 = .ok (.return_, 1) := by decide +kernel
theorem dX0_addNumbers_0 : decode cX0_addNumbers 0 = .ok (.iconst 0, 1) := by decide +kernel
theorem dX0_addNumbers_1 : decode cX0_addNumbers 1 = .ok (.istore 4, 2) := by decide +kernel
theorem dX0_addNumbers_3 : decode cX0_addNumbers 3 = .ok (.iload 4, 2) := by decide +kernel
theorem dX0_addNumbers_5 : decode cX0_addNumbers 5 = .ok (.aload_n 1, 1) := by decide +kernel
theorem dX0_addNumbers_6 : decode cX0_addNumbers 6 = .ok (.getfield 15, 3) := by decide +kernel
theorem dX0_addNumbers_9 : decode cX0_addNumbers 9 = .ok (.if_icmp .ge 28, 3) := by decide +kernel
theorem dX0_addNumbers_12 : decode cX0_addNumbers 12 = .ok (.aload_n 0, 1) := by decide +kernel
theorem dX0_addNumbers_13 : decode cX0_addNumbers 13 = .ok (.getfield 9, 3) := by decide +kernel
theorem dX0_addNumbers_16 : decode cX0_addNumbers 16 = .ok (.iload 4, 2) := by decide +kernel
theorem dX0_addNumbers_18 : decode cX0_addNumbers 18 = .ok (.dup2, 1) := by decide +kernel
theorem dX0_addNumbers_19 : decode cX0_addNumbers 19 = .ok (.laload, 1) := by decide +kernel
theorem dX0_addNumbers_20 : decode cX0_addNumbers 20 = .ok (.lload_n 2, 1) := by decide +kernel
theorem dX0_addNumbers_21 : decode cX0_addNumbers 21 = .ok (.aload_n 1, 1) := by decide +kernel
theorem dX0_addNumbers_22 : decode cX0_addNumbers 22 = .ok (.getfield 9, 3) := by decide +kernel
theorem dX0_addNumbers_25 : decode cX0_addNumbers 25 = .ok (.iload 4, 2) := by decide +kernel
theorem dX0_addNumbers_27 : decode cX0_addNumbers 27 = .ok (.laload, 1) := by decide +kernel
theorem dX0_addNumbers_28 : decode cX0_addNumbers 28 = .ok (.lmul, 1) := by decide +kernel
theorem dX0_addNumbers_29 : decode cX0_addNumbers 29 = .ok (.ladd, 1) := by decide +kernel
theorem dX0_addNumbers_30 : decode cX0_addNumbers 30 = .ok (.lastore, 1) := by decide +kernel
theorem dX0_addNumbers_31 : decode cX0_addNumbers 31 = .ok (.iinc 4 1, 3) := by decide +kernel
theorem dX0_addNumbers_34 : decode cX0_addNumbers 34 = .ok (.goto (-31), 3) := by decide +kernel
theorem dX0_addNumbers_37 : decode cX0_addNumbers 37 = .ok (.aload_n 0, 1) := by decide +kernel
theorem dX0_addNumbers_38 : decode cX0_addNumbers 38 = .ok (.aload_n 0, 1) := by decide +kernel
theorem dX0_addNumbers_39 : decode cX0_addNumbers 39 = .ok (.getfield 15, 3) := by decide +kernel
theorem dX0_addNumbers_42 : decode cX0_addNumbers 42 = .ok (.aload_n 1, 1) := by decide +kernel
theorem dX0_addNumbers_43 : decode cX0_addNumbers 43 = .ok (.getfield 15, 3) := by decide +kernel
theorem dX0_addNumbers_46 : decode cX0_addNumbers 46 = .ok (.if_icmp .lt 10, 3) := by decide +kernel
theorem dX0_addNumbers_49 : decode cX0_addNumbers 49 = .ok (.aload_n 0, 1) := by decide +kernel
theorem dX0_addNumbers_50 : decode cX0_addNumbers 50 = .ok (.getfield 15, 3) := by decide +kernel
theorem dX0_addNumbers_53 : decode cX0_addNumbers 53 = .ok (.goto 7, 3) := by decide +kernel
theorem dX0_addNumbers_56 : decode cX0_addNumbers 56 = .ok (.aload_n 1, 1) := by decide +kernel
theorem dX0_addNumbers_57 : decode cX0_addNumbers 57 = .ok (.getfield 15, 3) := by decide +kernel
theorem dX0_addNumbers_60 : decode cX0_addNumbers 60 = .ok (.putfield 15, 3) := by decide +kernel
theorem dX0_addNumbers_63 : decode cX0_addNumbers 63 = .ok (.return_, 1) := by decide +kernel
theorem dX0_addNoise_0 : decode cX0_addNoise 0 = .ok (.iload_n 1, 1) := by decide +kernel
theorem dX0_addNoise_1 : decode cX0_addNoise 1 = .ok (.ifCond .lt 9, 3) := by decide +kernel
theorem dX0_addNoise_4 : decode cX0_addNoise 4 = .ok (.iload_n 1, 1) := by decide +kernel
theorem dX0_addNoise_5 : decode cX0_addNoise 5 = .ok (.bipush 63, 2) := by decide +kernel
theorem dX0_addNoise_7 : decode cX0_addNoise 7 = .ok (.if_icmp .lt 4, 3) := by decide +kernel
theorem dX0_addNoise_10 : decode cX0_addNoise 10 = .ok (.return_, 1) := by decide +kernel
theorem dX0_addNoise_11 : decode cX0_addNoise 11 = .ok (.aload_n 0, 1) := by decide +kernel
theorem dX0_addNoise_12 : decode cX0_addNoise 12 = .ok (.getfield 9, 3) := by decide +kernel
theorem dX0_addNoise_15 : decode cX0_addNoise 15 = .ok (.iload_n 1, 1) := by decide +kernel
theorem dX0_addNoise_16 : decode cX0_addNoise 16 = .ok (.dup2, 1) := by decide +kernel
theorem dX0_addNoise_17 : decode cX0_addNoise 17 = .ok (.laload, 1) := by decide +kernel
theorem dX0_addNoise_18 : decode cX0_addNoise 18 = .ok (.lload_n 2, 1) := by decide +kernel
theorem dX0_addNoise_19 : decode cX0_addNoise 19 = .ok (.ladd, 1) := by decide +kernel
theorem dX0_addNoise_20 : decode cX0_addNoise 20 = .ok (.lastore, 1) := by decide +kernel
theorem dX0_addNoise_21 : decode cX0_addNoise 21 = .ok (.aload_n 0, 1) := by decide +kernel
theorem dX0_addNoise_22 : decode cX0_addNoise 22 = .ok (.aload_n 0, 1) := by decide +kernel
theorem dX0_addNoise_23 : decode cX0_addNoise 23 = .ok (.getfield 15, 3) := by decide +kernel
theorem dX0_addNoise_26 : decode cX0_addNoise 26 = .ok (.iload_n 1, 1) := by decide +kernel
theorem dX0_addNoise_27 : decode cX0_addNoise 27 = .ok (.if_icmp .le 10, 3) := by decide +kernel
theorem dX0_addNoise_30 : decode cX0_addNoise 30 = .ok (.aload_n 0, 1) := by decide +kernel
theorem dX0_addNoise_31 : decode cX0_addNoise 31 = .ok (.getfield 15, 3) := by decide +kernel
theorem dX0_addNoise_34 : decode cX0_addNoise 34 = .ok (.goto 6, 3) := by decide +kernel
theorem dX0_addNoise_37 : decode cX0_addNoise 37 = .ok (.iload_n 1, 1) := by decide +kernel
theorem dX0_addNoise_38 : decode cX0_addNoise 38 = .ok (.iconst 1, 1) := by decide +kernel
theorem dX0_addNoise_39 : decode cX0_addNoise 39 = .ok (.iadd, 1) := by decide +kernel
theorem dX0_addNoise_40 : decode cX0_addNoise 40 = .ok (.putfield 15, 3) := by decide +kernel
theorem dX0_addNoise_43 : decode cX0_addNoise 43 = .ok (.return_, 1) := by decide +kernel
theorem dX0_radius_0 : decode cX0_radius 0 = .ok (.lconst 0, 1) := by decide +kernel
theorem dX0_radius_1 : decode cX0_radius 1 = .ok (.lstore_n 1, 1) := by decide +kernel
theorem dX0_radius_2 : decode cX0_radius 2 = .ok (.iconst 0, 1) := by decide +kernel
theorem dX0_radius_3 : decode cX0_radius 3 = .ok (.istore_n 3, 1) := by decide +kernel
theorem dX0_radius_4 : decode cX0_radius 4 = .ok (.iload_n 3, 1) := by decide +kernel
theorem dX0_radius_5 : decode cX0_radius 5 = .ok (.aload_n 0, 1) := by decide +kernel
theorem dX0_radius_6 : decode cX0_radius 6 = .ok (.getfield 15, 3) := by decide +kernel
theorem dX0_radius_9 : decode cX0_radius 9 = .ok (.if_icmp .ge 39, 3) := by decide +kernel
theorem dX0_radius_12 : decode cX0_radius 12 = .ok (.lload_n 1, 1) := by decide +kernel
theorem dX0_radius_13 : decode cX0_radius 13 = .ok (.aload_n 0, 1) := by decide +kernel
theorem dX0_radius_14 : decode cX0_radius 14 = .ok (.getfield 9, 3) := by decide +kernel
theorem dX0_radius_17 : decode cX0_radius 17 = .ok (.iload_n 3, 1) := by decide +kernel
theorem dX0_radius_18 : decode cX0_radius 18 = .ok (.laload, 1) := by decide +kernel
theorem dX0_radius_19 : decode cX0_radius 19 = .ok (.lconst 0, 1) := by decide +kernel
theorem dX0_radius_20 : decode cX0_radius 20 = .ok (.lcmp, 1) := by decide +kernel
theorem dX0_radius_21 : decode cX0_radius 21 = .ok (.ifCond .ge 13, 3) := by decide +kernel
theorem dX0_radius_24 : decode cX0_radius 24 = .ok (.aload_n 0, 1) := by decide +kernel
theorem dX0_radius_25 : decode cX0_radius 25 = .ok (.getfield 9, 3) := by decide +kernel
theorem dX0_radius_28 : decode cX0_radius 28 = .ok (.iload_n 3, 1) := by decide +kernel
theorem dX0_radius_29 : decode cX0_radius 29 = .ok (.laload, 1) := by decide +kernel
theorem dX0_radius_30 : decode cX0_radius 30 = .ok (.lneg, 1) := by decide +kernel
theorem dX0_radius_31 : decode cX0_radius 31 = .ok (.goto 9, 3) := by decide +kernel
theorem dX0_radius_34 : decode cX0_radius 34 = .ok (.aload_n 0, 1) := by decide +kernel
theorem dX0_radius_35 : decode cX0_radius 35 = .ok (.getfield 9, 3) := by decide +kernel
theorem dX0_radius_38 : decode cX0_radius 38 = .ok (.iload_n 3, 1) := by decide +kernel
theorem dX0_radius_39 : decode cX0_radius 39 = .ok (.laload, 1) := by decide +kernel
theorem dX0_radius_40 : decode cX0_radius 40 = .ok (.ladd, 1) := by decide +kernel
theorem dX0_radius_41 : decode cX0_radius 41 = .ok (.lstore_n 1, 1) := by decide +kernel
theorem dX0_radius_42 : decode cX0_radius 42 = .ok (.iinc 3 1, 3) := by decide +kernel
theorem dX0_radius_45 : decode cX0_radius 45 = .ok (.goto (-41), 3) := by decide +kernel
theorem dX0_radius_48 : decode cX0_radius 48 = .ok (.lload_n 1, 1) := by decide +kernel
theorem dX0_radius_49 : decode cX0_radius 49 = .ok (.lreturn, 1) := by decide +kernel
theorem dX0_least_0 : decode cX0_least 0 = .ok (.aload_n 0, 1) := by decide +kernel
theorem dX0_least_1 : decode cX0_least 1 = .ok (.getfield 19, 3) := by decide +kernel
theorem dX0_least_4 : decode cX0_least 4 = .ok (.aload_n 0, 1) := by decide +kernel
theorem dX0_least_5 : decode cX0_least 5 = .ok (.invokevirtual 27, 3) := by decide +kernel
theorem dX0_least_8 : decode cX0_least 8 = .ok (.lsub, 1) := by decide +kernel
theorem dX0_least_9 : decode cX0_least 9 = .ok (.lreturn, 1) := by decide +kernel
theorem dX0_greatest_0 : decode cX0_greatest 0 = .ok (.aload_n 0, 1) := by decide +kernel
theorem dX0_greatest_1 : decode cX0_greatest 1 = .ok (.getfield 19, 3) := by decide +kernel
theorem dX0_greatest_4 : decode cX0_greatest 4 = .ok (.aload_n 0, 1) := by decide +kernel
theorem dX0_greatest_5 : decode cX0_greatest 5 = .ok (.invokevirtual 27, 3) := by decide +kernel
theorem dX0_greatest_8 : decode cX0_greatest 8 = .ok (.ladd, 1) := by decide +kernel
theorem dX0_greatest_9 : decode cX0_greatest 9 = .ok (.lreturn, 1) := by decide +kernel
theorem dX1_init_0 : decode cX1_init 0 = .ok (.aload_n 0, 1) := by decide +kernel
theorem dX1_init_1 : decode cX1_init 1 = .ok (.invokespecial 3, 3) := by decide +kernel
theorem dX1_init_4 : decode cX1_init 4 = .ok (.aload_n 0, 1) := by decide +kernel
theorem dX1_init_5 : decode cX1_init 5 = .ok (.bipush 15, 2) := by decide +kernel
theorem dX1_init_7 : decode cX1_init 7 = .ok (.newarray .int, 2) := by decide +kernel
theorem dX1_init_9 : decode cX1_init 9 = .ok (.putfield 9, 3) := by decide +kernel
theorem dX1_init_12 : decode cX1_init 12 = .ok (.aload_n 0, 1) := by decide +kernel
theorem dX1_init_13 : decode cX1_init 13 = .ok (.bipush 63, 2) := by decide +kernel
theorem dX1_init_15 : decode cX1_init 15 = .ok (.newarray .int, 2) := by decide +kernel
theorem dX1_init_17 : decode cX1_init 17 = .ok (.putfield 15, 3) := by decide +kernel
theorem dX1_init_20 : decode cX1_init 20 = .ok (.aload_n 0, 1) := by decide +kernel
theorem dX1_init_21 : decode cX1_init 21 = .ok (.bipush 63, 2) := by decide +kernel
theorem dX1_init_23 : decode cX1_init 23 = .ok (.newarray .int, 2) := by decide +kernel
theorem dX1_init_25 : decode cX1_init 25 = .ok (.putfield 18, 3) := by decide +kernel
theorem dX1_init_28 : decode cX1_init 28 = .ok (.aload_n 0, 1) := by decide +kernel
theorem dX1_init_29 : decode cX1_init 29 = .ok (.bipush 15, 2) := by decide +kernel
theorem dX1_init_31 : decode cX1_init 31 = .ok (.anewarray 21, 3) := by decide +kernel
theorem dX1_init_34 : decode cX1_init 34 = .ok (.putfield 23, 3) := by decide +kernel
theorem dX1_init_37 : decode cX1_init 37 = .ok (.aload_n 0, 1) := by decide +kernel
theorem dX1_init_38 : decode cX1_init 38 = .ok (.bipush 15, 2) := by decide +kernel
theorem dX1_init_40 : decode cX1_init 40 = .ok (.anewarray 21, 3) := by decide +kernel
theorem dX1_init_43 : decode cX1_init 43 = .ok (.putfield 27, 3) := by decide +kernel
theorem dX1_init_46 : decode cX1_init 46 = .ok (.aload_n 0, 1) := by decide +kernel
theorem dX1_init_47 : decode cX1_init 47 = .ok (.iconst 4, 1) := by decide +kernel
theorem dX1_init_48 : decode cX1_init 48 = .ok (.anewarray 21, 3) := by decide +kernel
theorem dX1_init_51 : decode cX1_init 51 = .ok (.putfield 30, 3) := by decide +kernel
theorem dX1_init_54 : decode cX1_init 54 = .ok (.aload_n 0, 1) := by decide +kernel
theorem dX1_init_55 : decode cX1_init 55 = .ok (.new 21, 3) := by decide +kernel
theorem dX1_init_58 : decode cX1_init 58 = .ok (.dup, 1) := by decide +kernel
theorem dX1_init_59 : decode cX1_init 59 = .ok (.invokespecial 33, 3) := by decide +kernel
theorem dX1_init_62 : decode cX1_init 62 = .ok (.putfield 34, 3) := by decide +kernel
theorem dX1_init_65 : decode cX1_init 65 = .ok (.aload_n 0, 1) := by decide +kernel
theorem dX1_init_66 : decode cX1_init 66 = .ok (.new 21, 3) := by decide +kernel
theorem dX1_init_69 : decode cX1_init 69 = .ok (.dup, 1) := by decide +kernel
theorem dX1_init_70 : decode cX1_init 70 = .ok (.invokespecial 33, 3) := by decide +kernel
theorem dX1_init_73 : decode cX1_init 73 = .ok (.putfield 38, 3) := by decide +kernel
theorem dX1_init_76 : decode cX1_init 76 = .ok (.aload_n 0, 1) := by decide +kernel
theorem dX1_init_77 : decode cX1_init 77 = .ok (.new 21, 3) := by decide +kernel
theorem dX1_init_80 : decode cX1_init 80 = .ok (.dup, 1) := by decide +kernel
theorem dX1_init_81 : decode cX1_init 81 = .ok (.invokespecial 33, 3) := by decide +kernel
theorem dX1_init_84 : decode cX1_init 84 = .ok (.putfield 41, 3) := by decide +kernel
theorem dX1_init_87 : decode cX1_init 87 = .ok (.aload_n 0, 1) := by decide +kernel
theorem dX1_init_88 : decode cX1_init 88 = .ok (.new 21, 3) := by decide +kernel
theorem dX1_init_91 : decode cX1_init 91 = .ok (.dup, 1) := by decide +kernel
theorem dX1_init_92 : decode cX1_init 92 = .ok (.invokespecial 33, 3) := by decide +kernel
theorem dX1_init_95 : decode cX1_init 95 = .ok (.putfield 44, 3) := by decide +kernel
theorem dX1_init_98 : decode cX1_init 98 = .ok (.aload_n 0, 1) := by decide +kernel
theorem dX1_init_99 : decode cX1_init 99 = .ok (.new 21, 3) := by decide +kernel
theorem dX1_init_102 : decode cX1_init 102 = .ok (.dup, 1) := by decide +kernel
theorem dX1_init_103 : decode cX1_init 103 = .ok (.invokespecial 33, 3) := by decide +kernel
theorem dX1_init_106 : decode cX1_init 106 = .ok (.putfield 47, 3) := by decide +kernel
theorem dX1_init_109 : decode cX1_init 109 = .ok (.aload_n 0, 1) := by decide +kernel
theorem dX1_init_110 : decode cX1_init 110 = .ok (.iconst 4, 1) := by decide +kernel
theorem dX1_init_111 : decode cX1_init 111 = .ok (.anewarray 21, 3) := by decide +kernel
theorem dX1_init_114 : decode cX1_init 114 = .ok (.putfield 50, 3) := by decide +kernel
theorem dX1_init_117 : decode cX1_init 117 = .ok (.iconst 0, 1) := by decide +kernel
theorem dX1_init_118 : decode cX1_init 118 = .ok (.istore_n 1, 1) := by decide +kernel
theorem dX1_init_119 : decode cX1_init 119 = .ok (.iload_n 1, 1) := by decide +kernel
theorem dX1_init_120 : decode cX1_init 120 = .ok (.bipush 15, 2) := by decide +kernel
theorem dX1_init_122 : decode cX1_init 122 = .ok (.if_icmp .ge 35, 3) := by decide +kernel
theorem dX1_init_125 : decode cX1_init 125 = .ok (.aload_n 0, 1) := by decide +kernel
theorem dX1_init_126 : decode cX1_init 126 = .ok (.getfield 23, 3) := by decide +kernel
theorem dX1_init_129 : decode cX1_init 129 = .ok (.iload_n 1, 1) := by decide +kernel
theorem dX1_init_130 : decode cX1_init 130 = .ok (.new 21, 3) := by decide +kernel
theorem dX1_init_133 : decode cX1_init 133 = .ok (.dup, 1) := by decide +kernel
theorem dX1_init_134 : decode cX1_init 134 = .ok (.invokespecial 33, 3) := by decide +kernel
theorem dX1_init_137 : decode cX1_init 137 = .ok (.aastore, 1) := by decide +kernel
theorem dX1_init_138 : decode cX1_init 138 = .ok (.aload_n 0, 1) := by decide +kernel
theorem dX1_init_139 : decode cX1_init 139 = .ok (.getfield 27, 3) := by decide +kernel
theorem dX1_init_142 : decode cX1_init 142 = .ok (.iload_n 1, 1) := by decide +kernel
theorem dX1_init_143 : decode cX1_init 143 = .ok (.new 21, 3) := by decide +kernel
theorem dX1_init_146 : decode cX1_init 146 = .ok (.dup, 1) := by decide +kernel
theorem dX1_init_147 : decode cX1_init 147 = .ok (.invokespecial 33, 3) := by decide +kernel
theorem dX1_init_150 : decode cX1_init 150 = .ok (.aastore, 1) := by decide +kernel
theorem dX1_init_151 : decode cX1_init 151 = .ok (.iinc 1 1, 3) := by decide +kernel
theorem dX1_init_154 : decode cX1_init 154 = .ok (.goto (-35), 3) := by decide +kernel
theorem dX1_init_157 : decode cX1_init 157 = .ok (.iconst 0, 1) := by decide +kernel
theorem dX1_init_158 : decode cX1_init 158 = .ok (.istore_n 1, 1) := by decide +kernel
theorem dX1_init_159 : decode cX1_init 159 = .ok (.iload_n 1, 1) := by decide +kernel
theorem dX1_init_160 : decode cX1_init 160 = .ok (.iconst 4, 1) := by decide +kernel
theorem dX1_init_161 : decode cX1_init 161 = .ok (.if_icmp .ge 22, 3) := by decide +kernel
theorem dX1_init_164 : decode cX1_init 164 = .ok (.aload_n 0, 1) := by decide +kernel
theorem dX1_init_165 : decode cX1_init 165 = .ok (.getfield 30, 3) := by decide +kernel
theorem dX1_init_168 : decode cX1_init 168 = .ok (.iload_n 1, 1) := by decide +kernel
theorem dX1_init_169 : decode cX1_init 169 = .ok (.new 21, 3) := by decide +kernel
theorem dX1_init_172 : decode cX1_init 172 = .ok (.dup, 1) := by decide +kernel
theorem dX1_init_173 : decode cX1_init 173 = .ok (.invokespecial 33, 3) := by decide +kernel
theorem dX1_init_176 : decode cX1_init 176 = .ok (.aastore, 1) := by decide +kernel
theorem dX1_init_177 : decode cX1_init 177 = .ok (.iinc 1 1, 3) := by decide +kernel
theorem dX1_init_180 : decode cX1_init 180 = .ok (.goto (-21), 3) := by decide +kernel
theorem dX1_init_183 : decode cX1_init 183 = .ok (.return_, 1) := by decide +kernel
theorem dX1_reckon_0 : decode cX1_reckon 0 = .ok (.aload_n 0, 1) := by decide +kernel
theorem dX1_reckon_1 : decode cX1_reckon 1 = .ok (.iconst 0, 1) := by decide +kernel
theorem dX1_reckon_2 : decode cX1_reckon 2 = .ok (.putfield 53, 3) := by decide +kernel
theorem dX1_reckon_5 : decode cX1_reckon 5 = .ok (.iconst 0, 1) := by decide +kernel
theorem dX1_reckon_6 : decode cX1_reckon 6 = .ok (.istore_n 3, 1) := by decide +kernel
theorem dX1_reckon_7 : decode cX1_reckon 7 = .ok (.iload_n 3, 1) := by decide +kernel
theorem dX1_reckon_8 : decode cX1_reckon 8 = .ok (.aload_n 1, 1) := by decide +kernel
theorem dX1_reckon_9 : decode cX1_reckon 9 = .ok (.getfield 57, 3) := by decide +kernel
theorem dX1_reckon_12 : decode cX1_reckon 12 = .ok (.if_icmp .ge 20, 3) := by decide +kernel
theorem dX1_reckon_15 : decode cX1_reckon 15 = .ok (.aload_n 0, 1) := by decide +kernel
theorem dX1_reckon_16 : decode cX1_reckon 16 = .ok (.aload_n 1, 1) := by decide +kernel
theorem dX1_reckon_17 : decode cX1_reckon 17 = .ok (.aload_n 1, 1) := by decide +kernel
theorem dX1_reckon_18 : decode cX1_reckon 18 = .ok (.getfield 62, 3) := by decide +kernel
theorem dX1_reckon_21 : decode cX1_reckon 21 = .ok (.iload_n 3, 1) := by decide +kernel
theorem dX1_reckon_22 : decode cX1_reckon 22 = .ok (.iaload, 1) := by decide +kernel
theorem dX1_reckon_23 : decode cX1_reckon 23 = .ok (.invokevirtual 65, 3) := by decide +kernel
theorem dX1_reckon_26 : decode cX1_reckon 26 = .ok (.iinc 3 1, 3) := by decide +kernel
theorem dX1_reckon_29 : decode cX1_reckon 29 = .ok (.goto (-22), 3) := by decide +kernel
theorem dX1_reckon_32 : decode cX1_reckon 32 = .ok (.iconst 0, 1) := by decide +kernel
theorem dX1_reckon_33 : decode cX1_reckon 33 = .ok (.istore_n 3, 1) := by decide +kernel
theorem dX1_reckon_34 : decode cX1_reckon 34 = .ok (.iload_n 3, 1) := by decide +kernel
theorem dX1_reckon_35 : decode cX1_reckon 35 = .ok (.aload_n 1, 1) := by decide +kernel
theorem dX1_reckon_36 : decode cX1_reckon 36 = .ok (.getfield 69, 3) := by decide +kernel
theorem dX1_reckon_39 : decode cX1_reckon 39 = .ok (.if_icmp .ge 132, 3) := by decide +kernel
theorem dX1_reckon_42 : decode cX1_reckon 42 = .ok (.iload_n 2, 1) := by decide +kernel
theorem dX1_reckon_43 : decode cX1_reckon 43 = .ok (.iload_n 3, 1) := by decide +kernel
theorem dX1_reckon_44 : decode cX1_reckon 44 = .ok (.ishr, 1) := by decide +kernel
theorem dX1_reckon_45 : decode cX1_reckon 45 = .ok (.iconst 1, 1) := by decide +kernel
theorem dX1_reckon_46 : decode cX1_reckon 46 = .ok (.iand, 1) := by decide +kernel
theorem dX1_reckon_47 : decode cX1_reckon 47 = .ok (.ifCond .ne 6, 3) := by decide +kernel
theorem dX1_reckon_50 : decode cX1_reckon 50 = .ok (.goto 115, 3) := by decide +kernel
theorem dX1_reckon_53 : decode cX1_reckon 53 = .ok (.aload_n 1, 1) := by decide +kernel
theorem dX1_reckon_54 : decode cX1_reckon 54 = .ok (.getfield 72, 3) := by decide +kernel
theorem dX1_reckon_57 : decode cX1_reckon 57 = .ok (.iload_n 3, 1) := by decide +kernel
theorem dX1_reckon_58 : decode cX1_reckon 58 = .ok (.iaload, 1) := by decide +kernel
theorem dX1_reckon_59 : decode cX1_reckon 59 = .ok (.tableswitch 67 0 3 #[29, 39, 49, 58], 29) := by decide +kernel
theorem dX1_reckon_88 : decode cX1_reckon 88 = .ok (.aload_n 0, 1) := by decide +kernel
theorem dX1_reckon_89 : decode cX1_reckon 89 = .ok (.aload_n 1, 1) := by decide +kernel
theorem dX1_reckon_90 : decode cX1_reckon 90 = .ok (.iload_n 3, 1) := by decide +kernel
theorem dX1_reckon_91 : decode cX1_reckon 91 = .ok (.iconst 1, 1) := by decide +kernel
theorem dX1_reckon_92 : decode cX1_reckon 92 = .ok (.invokevirtual 75, 3) := by decide +kernel
theorem dX1_reckon_95 : decode cX1_reckon 95 = .ok (.goto 34, 3) := by decide +kernel
theorem dX1_reckon_98 : decode cX1_reckon 98 = .ok (.aload_n 0, 1) := by decide +kernel
theorem dX1_reckon_99 : decode cX1_reckon 99 = .ok (.aload_n 1, 1) := by decide +kernel
theorem dX1_reckon_100 : decode cX1_reckon 100 = .ok (.iload_n 3, 1) := by decide +kernel
theorem dX1_reckon_101 : decode cX1_reckon 101 = .ok (.iconst (-1), 1) := by decide +kernel
theorem dX1_reckon_102 : decode cX1_reckon 102 = .ok (.invokevirtual 75, 3) := by decide +kernel
theorem dX1_reckon_105 : decode cX1_reckon 105 = .ok (.goto 24, 3) := by decide +kernel
theorem dX1_reckon_108 : decode cX1_reckon 108 = .ok (.aload_n 0, 1) := by decide +kernel
theorem dX1_reckon_109 : decode cX1_reckon 109 = .ok (.aload_n 1, 1) := by decide +kernel
theorem dX1_reckon_110 : decode cX1_reckon 110 = .ok (.iload_n 3, 1) := by decide +kernel
theorem dX1_reckon_111 : decode cX1_reckon 111 = .ok (.invokevirtual 79, 3) := by decide +kernel
theorem dX1_reckon_114 : decode cX1_reckon 114 = .ok (.goto 15, 3) := by decide +kernel
theorem dX1_reckon_117 : decode cX1_reckon 117 = .ok (.aload_n 0, 1) := by decide +kernel
theorem dX1_reckon_118 : decode cX1_reckon 118 = .ok (.aload_n 1, 1) := by decide +kernel
theorem dX1_reckon_119 : decode cX1_reckon 119 = .ok (.iload_n 3, 1) := by decide +kernel
theorem dX1_reckon_120 : decode cX1_reckon 120 = .ok (.invokevirtual 82, 3) := by decide +kernel
theorem dX1_reckon_123 : decode cX1_reckon 123 = .ok (.goto 6, 3) := by decide +kernel
theorem dX1_reckon_126 : decode cX1_reckon 126 = .ok (.goto 39, 3) := by decide +kernel
theorem dX1_reckon_129 : decode cX1_reckon 129 = .ok (.aload_n 1, 1) := by decide +kernel
theorem dX1_reckon_130 : decode cX1_reckon 130 = .ok (.getfield 85, 3) := by decide +kernel
theorem dX1_reckon_133 : decode cX1_reckon 133 = .ok (.iload_n 3, 1) := by decide +kernel
theorem dX1_reckon_134 : decode cX1_reckon 134 = .ok (.iaload, 1) := by decide +kernel
theorem dX1_reckon_135 : decode cX1_reckon 135 = .ok (.istore 4, 2) := by decide +kernel
theorem dX1_reckon_137 : decode cX1_reckon 137 = .ok (.aload_n 1, 1) := by decide +kernel
theorem dX1_reckon_138 : decode cX1_reckon 138 = .ok (.iload_n 3, 1) := by decide +kernel
theorem dX1_reckon_139 : decode cX1_reckon 139 = .ok (.invokevirtual 88, 3) := by decide +kernel
theorem dX1_reckon_142 : decode cX1_reckon 142 = .ok (.iload 4, 2) := by decide +kernel
theorem dX1_reckon_144 : decode cX1_reckon 144 = .ok (.if_icmp .ge 21, 3) := by decide +kernel
theorem dX1_reckon_147 : decode cX1_reckon 147 = .ok (.aload_n 0, 1) := by decide +kernel
theorem dX1_reckon_148 : decode cX1_reckon 148 = .ok (.aload_n 0, 1) := by decide +kernel
theorem dX1_reckon_149 : decode cX1_reckon 149 = .ok (.getfield 27, 3) := by decide +kernel
theorem dX1_reckon_152 : decode cX1_reckon 152 = .ok (.iload_n 3, 1) := by decide +kernel
theorem dX1_reckon_153 : decode cX1_reckon 153 = .ok (.aaload, 1) := by decide +kernel
theorem dX1_reckon_154 : decode cX1_reckon 154 = .ok (.lconst 1, 1) := by decide +kernel
theorem dX1_reckon_155 : decode cX1_reckon 155 = .ok (.iload 4, 2) := by decide +kernel
theorem dX1_reckon_157 : decode cX1_reckon 157 = .ok (.iconst 1, 1) := by decide +kernel
theorem dX1_reckon_158 : decode cX1_reckon 158 = .ok (.isub, 1) := by decide +kernel
theorem dX1_reckon_159 : decode cX1_reckon 159 = .ok (.lshl, 1) := by decide +kernel
theorem dX1_reckon_160 : decode cX1_reckon 160 = .ok (.iload_n 3, 1) := by decide +kernel
theorem dX1_reckon_161 : decode cX1_reckon 161 = .ok (.iconst 3, 1) := by decide +kernel
theorem dX1_reckon_162 : decode cX1_reckon 162 = .ok (.invokevirtual 92, 3) := by decide +kernel
theorem dX1_reckon_165 : decode cX1_reckon 165 = .ok (.iinc 3 1, 3) := by decide +kernel
theorem dX1_reckon_168 : decode cX1_reckon 168 = .ok (.goto (-134), 3) := by decide +kernel
theorem dX1_reckon_171 : decode cX1_reckon 171 = .ok (.return_, 1) := by decide +kernel
theorem dX1_formOf_0 : decode cX1_formOf 0 = .ok (.iload_n 2, 1) := by decide +kernel
theorem dX1_formOf_1 : decode cX1_formOf 1 = .ok (.ifCond .eq 12, 3) := by decide +kernel
theorem dX1_formOf_4 : decode cX1_formOf 4 = .ok (.aload_n 0, 1) := by decide +kernel
theorem dX1_formOf_5 : decode cX1_formOf 5 = .ok (.getfield 27, 3) := by decide +kernel
theorem dX1_formOf_8 : decode cX1_formOf 8 = .ok (.iload_n 1, 1) := by decide +kernel
theorem dX1_formOf_9 : decode cX1_formOf 9 = .ok (.aaload, 1) := by decide +kernel
theorem dX1_formOf_10 : decode cX1_formOf 10 = .ok (.goto 9, 3) := by decide +kernel
theorem dX1_formOf_13 : decode cX1_formOf 13 = .ok (.aload_n 0, 1) := by decide +kernel
theorem dX1_formOf_14 : decode cX1_formOf 14 = .ok (.getfield 23, 3) := by decide +kernel
theorem dX1_formOf_17 : decode cX1_formOf 17 = .ok (.iload_n 1, 1) := by decide +kernel
theorem dX1_formOf_18 : decode cX1_formOf 18 = .ok (.aaload, 1) := by decide +kernel
theorem dX1_formOf_19 : decode cX1_formOf 19 = .ok (.areturn, 1) := by decide +kernel
theorem dX1_boundOf_0 : decode cX1_boundOf 0 = .ok (.aload_n 0, 1) := by decide +kernel
theorem dX1_boundOf_1 : decode cX1_boundOf 1 = .ok (.getfield 27, 3) := by decide +kernel
theorem dX1_boundOf_4 : decode cX1_boundOf 4 = .ok (.iload_n 1, 1) := by decide +kernel
theorem dX1_boundOf_5 : decode cX1_boundOf 5 = .ok (.aaload, 1) := by decide +kernel
theorem dX1_boundOf_6 : decode cX1_boundOf 6 = .ok (.getfield 96, 3) := by decide +kernel
theorem dX1_boundOf_9 : decode cX1_boundOf 9 = .ok (.lstore_n 2, 1) := by decide +kernel
theorem dX1_boundOf_10 : decode cX1_boundOf 10 = .ok (.lload_n 2, 1) := by decide +kernel
theorem dX1_boundOf_11 : decode cX1_boundOf 11 = .ok (.lconst 0, 1) := by decide +kernel
theorem dX1_boundOf_12 : decode cX1_boundOf 12 = .ok (.lcmp, 1) := by decide +kernel
theorem dX1_boundOf_13 : decode cX1_boundOf 13 = .ok (.ifCond .ge 8, 3) := by decide +kernel
theorem dX1_boundOf_16 : decode cX1_boundOf 16 = .ok (.lload_n 2, 1) := by decide +kernel
theorem dX1_boundOf_17 : decode cX1_boundOf 17 = .ok (.lneg, 1) := by decide +kernel
theorem dX1_boundOf_18 : decode cX1_boundOf 18 = .ok (.goto 4, 3) := by decide +kernel
theorem dX1_boundOf_21 : decode cX1_boundOf 21 = .ok (.lload_n 2, 1) := by decide +kernel
theorem dX1_boundOf_22 : decode cX1_boundOf 22 = .ok (.aload_n 0, 1) := by decide +kernel
theorem dX1_boundOf_23 : decode cX1_boundOf 23 = .ok (.getfield 27, 3) := by decide +kernel
theorem dX1_boundOf_26 : decode cX1_boundOf 26 = .ok (.iload_n 1, 1) := by decide +kernel
theorem dX1_boundOf_27 : decode cX1_boundOf 27 = .ok (.aaload, 1) := by decide +kernel
theorem dX1_boundOf_28 : decode cX1_boundOf 28 = .ok (.invokevirtual 100, 3) := by decide +kernel
theorem dX1_boundOf_31 : decode cX1_boundOf 31 = .ok (.ladd, 1) := by decide +kernel
theorem dX1_boundOf_32 : decode cX1_boundOf 32 = .ok (.lreturn, 1) := by decide +kernel
theorem dX1_sharedBy_0 : decode cX1_sharedBy 0 = .ok (.iconst 0, 1) := by decide +kernel
theorem dX1_sharedBy_1 : decode cX1_sharedBy 1 = .ok (.istore_n 3, 1) := by decide +kernel
theorem dX1_sharedBy_2 : decode cX1_sharedBy 2 = .ok (.iconst 0, 1) := by decide +kernel
theorem dX1_sharedBy_3 : decode cX1_sharedBy 3 = .ok (.istore 4, 2) := by decide +kernel
theorem dX1_sharedBy_5 : decode cX1_sharedBy 5 = .ok (.iload 4, 2) := by decide +kernel
theorem dX1_sharedBy_7 : decode cX1_sharedBy 7 = .ok (.aload_n 0, 1) := by decide +kernel
theorem dX1_sharedBy_8 : decode cX1_sharedBy 8 = .ok (.getfield 53, 3) := by decide +kernel
theorem dX1_sharedBy_11 : decode cX1_sharedBy 11 = .ok (.if_icmp .ge 46, 3) := by decide +kernel
theorem dX1_sharedBy_14 : decode cX1_sharedBy 14 = .ok (.aload_n 0, 1) := by decide +kernel
theorem dX1_sharedBy_15 : decode cX1_sharedBy 15 = .ok (.getfield 27, 3) := by decide +kernel
theorem dX1_sharedBy_18 : decode cX1_sharedBy 18 = .ok (.iload_n 1, 1) := by decide +kernel
theorem dX1_sharedBy_19 : decode cX1_sharedBy 19 = .ok (.aaload, 1) := by decide +kernel
theorem dX1_sharedBy_20 : decode cX1_sharedBy 20 = .ok (.getfield 104, 3) := by decide +kernel
theorem dX1_sharedBy_23 : decode cX1_sharedBy 23 = .ok (.iload 4, 2) := by decide +kernel
theorem dX1_sharedBy_25 : decode cX1_sharedBy 25 = .ok (.laload, 1) := by decide +kernel
theorem dX1_sharedBy_26 : decode cX1_sharedBy 26 = .ok (.lconst 0, 1) := by decide +kernel
theorem dX1_sharedBy_27 : decode cX1_sharedBy 27 = .ok (.lcmp, 1) := by decide +kernel
theorem dX1_sharedBy_28 : decode cX1_sharedBy 28 = .ok (.ifCond .eq 23, 3) := by decide +kernel
theorem dX1_sharedBy_31 : decode cX1_sharedBy 31 = .ok (.aload_n 0, 1) := by decide +kernel
theorem dX1_sharedBy_32 : decode cX1_sharedBy 32 = .ok (.getfield 27, 3) := by decide +kernel
theorem dX1_sharedBy_35 : decode cX1_sharedBy 35 = .ok (.iload_n 2, 1) := by decide +kernel
theorem dX1_sharedBy_36 : decode cX1_sharedBy 36 = .ok (.aaload, 1) := by decide +kernel
theorem dX1_sharedBy_37 : decode cX1_sharedBy 37 = .ok (.getfield 104, 3) := by decide +kernel
theorem dX1_sharedBy_40 : decode cX1_sharedBy 40 = .ok (.iload 4, 2) := by decide +kernel
theorem dX1_sharedBy_42 : decode cX1_sharedBy 42 = .ok (.laload, 1) := by decide +kernel
theorem dX1_sharedBy_43 : decode cX1_sharedBy 43 = .ok (.lconst 0, 1) := by decide +kernel
theorem dX1_sharedBy_44 : decode cX1_sharedBy 44 = .ok (.lcmp, 1) := by decide +kernel
theorem dX1_sharedBy_45 : decode cX1_sharedBy 45 = .ok (.ifCond .eq 6, 3) := by decide +kernel
theorem dX1_sharedBy_48 : decode cX1_sharedBy 48 = .ok (.iinc 3 1, 3) := by decide +kernel
theorem dX1_sharedBy_51 : decode cX1_sharedBy 51 = .ok (.iinc 4 1, 3) := by decide +kernel
theorem dX1_sharedBy_54 : decode cX1_sharedBy 54 = .ok (.goto (-49), 3) := by decide +kernel
theorem dX1_sharedBy_57 : decode cX1_sharedBy 57 = .ok (.iload_n 3, 1) := by decide +kernel
theorem dX1_sharedBy_58 : decode cX1_sharedBy 58 = .ok (.ireturn, 1) := by decide +kernel
theorem dX1_partOf_0 : decode cX1_partOf 0 = .ok (.lconst 0, 1) := by decide +kernel
theorem dX1_partOf_1 : decode cX1_partOf 1 = .ok (.lstore_n 3, 1) := by decide +kernel
theorem dX1_partOf_2 : decode cX1_partOf 2 = .ok (.iconst 0, 1) := by decide +kernel
theorem dX1_partOf_3 : decode cX1_partOf 3 = .ok (.istore 5, 2) := by decide +kernel
theorem dX1_partOf_5 : decode cX1_partOf 5 = .ok (.iload 5, 2) := by decide +kernel
theorem dX1_partOf_7 : decode cX1_partOf 7 = .ok (.aload_n 0, 1) := by decide +kernel
theorem dX1_partOf_8 : decode cX1_partOf 8 = .ok (.getfield 53, 3) := by decide +kernel
theorem dX1_partOf_11 : decode cX1_partOf 11 = .ok (.if_icmp .ge 38, 3) := by decide +kernel
theorem dX1_partOf_14 : decode cX1_partOf 14 = .ok (.aload_n 0, 1) := by decide +kernel
theorem dX1_partOf_15 : decode cX1_partOf 15 = .ok (.getfield 15, 3) := by decide +kernel
theorem dX1_partOf_18 : decode cX1_partOf 18 = .ok (.iload 5, 2) := by decide +kernel
theorem dX1_partOf_20 : decode cX1_partOf 20 = .ok (.iaload, 1) := by decide +kernel
theorem dX1_partOf_21 : decode cX1_partOf 21 = .ok (.iload_n 2, 1) := by decide +kernel
theorem dX1_partOf_22 : decode cX1_partOf 22 = .ok (.if_icmp .ne 21, 3) := by decide +kernel
theorem dX1_partOf_25 : decode cX1_partOf 25 = .ok (.lload_n 3, 1) := by decide +kernel
theorem dX1_partOf_26 : decode cX1_partOf 26 = .ok (.aload_n 0, 1) := by decide +kernel
theorem dX1_partOf_27 : decode cX1_partOf 27 = .ok (.getfield 27, 3) := by decide +kernel
theorem dX1_partOf_30 : decode cX1_partOf 30 = .ok (.iload_n 1, 1) := by decide +kernel
theorem dX1_partOf_31 : decode cX1_partOf 31 = .ok (.aaload, 1) := by decide +kernel
theorem dX1_partOf_32 : decode cX1_partOf 32 = .ok (.getfield 104, 3) := by decide +kernel
theorem dX1_partOf_35 : decode cX1_partOf 35 = .ok (.iload 5, 2) := by decide +kernel
theorem dX1_partOf_37 : decode cX1_partOf 37 = .ok (.laload, 1) := by decide +kernel
theorem dX1_partOf_38 : decode cX1_partOf 38 = .ok (.invokestatic 108, 3) := by decide +kernel
theorem dX1_partOf_41 : decode cX1_partOf 41 = .ok (.ladd, 1) := by decide +kernel
theorem dX1_partOf_42 : decode cX1_partOf 42 = .ok (.lstore_n 3, 1) := by decide +kernel
theorem dX1_partOf_43 : decode cX1_partOf 43 = .ok (.iinc 5 1, 3) := by decide +kernel
theorem dX1_partOf_46 : decode cX1_partOf 46 = .ok (.goto (-41), 3) := by decide +kernel
theorem dX1_partOf_49 : decode cX1_partOf 49 = .ok (.lload_n 3, 1) := by decide +kernel
theorem dX1_partOf_50 : decode cX1_partOf 50 = .ok (.lreturn, 1) := by decide +kernel
theorem dX1_blamed_0 : decode cX1_blamed 0 = .ok (.bipush (-2), 2) := by decide +kernel
theorem dX1_blamed_2 : decode cX1_blamed 2 = .ok (.istore_n 3, 1) := by decide +kernel
theorem dX1_blamed_3 : decode cX1_blamed 3 = .ok (.lconst 0, 1) := by decide +kernel
theorem dX1_blamed_4 : decode cX1_blamed 4 = .ok (.lstore 4, 2) := by decide +kernel
theorem dX1_blamed_6 : decode cX1_blamed 6 = .ok (.iconst 0, 1) := by decide +kernel
theorem dX1_blamed_7 : decode cX1_blamed 7 = .ok (.istore 6, 2) := by decide +kernel
theorem dX1_blamed_9 : decode cX1_blamed 9 = .ok (.iload 6, 2) := by decide +kernel
theorem dX1_blamed_11 : decode cX1_blamed 11 = .ok (.iload_n 2, 1) := by decide +kernel
theorem dX1_blamed_12 : decode cX1_blamed 12 = .ok (.if_icmp .gt 45, 3) := by decide +kernel
theorem dX1_blamed_15 : decode cX1_blamed 15 = .ok (.aload_n 1, 1) := by decide +kernel
theorem dX1_blamed_16 : decode cX1_blamed 16 = .ok (.iload 6, 2) := by decide +kernel
theorem dX1_blamed_18 : decode cX1_blamed 18 = .ok (.invokevirtual 114, 3) := by decide +kernel
theorem dX1_blamed_21 : decode cX1_blamed 21 = .ok (.ifCond .ne 6, 3) := by decide +kernel
theorem dX1_blamed_24 : decode cX1_blamed 24 = .ok (.goto 27, 3) := by decide +kernel
theorem dX1_blamed_27 : decode cX1_blamed 27 = .ok (.aload_n 0, 1) := by decide +kernel
theorem dX1_blamed_28 : decode cX1_blamed 28 = .ok (.iload_n 2, 1) := by decide +kernel
theorem dX1_blamed_29 : decode cX1_blamed 29 = .ok (.iload 6, 2) := by decide +kernel
theorem dX1_blamed_31 : decode cX1_blamed 31 = .ok (.invokevirtual 118, 3) := by decide +kernel
theorem dX1_blamed_34 : decode cX1_blamed 34 = .ok (.lstore 7, 2) := by decide +kernel
theorem dX1_blamed_36 : decode cX1_blamed 36 = .ok (.lload 7, 2) := by decide +kernel
theorem dX1_blamed_38 : decode cX1_blamed 38 = .ok (.lload 4, 2) := by decide +kernel
theorem dX1_blamed_40 : decode cX1_blamed 40 = .ok (.lcmp, 1) := by decide +kernel
theorem dX1_blamed_41 : decode cX1_blamed 41 = .ok (.ifCond .le 10, 3) := by decide +kernel
theorem dX1_blamed_44 : decode cX1_blamed 44 = .ok (.lload 7, 2) := by decide +kernel
theorem dX1_blamed_46 : decode cX1_blamed 46 = .ok (.lstore 4, 2) := by decide +kernel
theorem dX1_blamed_48 : decode cX1_blamed 48 = .ok (.iload 6, 2) := by decide +kernel
theorem dX1_blamed_50 : decode cX1_blamed 50 = .ok (.istore_n 3, 1) := by decide +kernel
theorem dX1_blamed_51 : decode cX1_blamed 51 = .ok (.iinc 6 1, 3) := by decide +kernel
theorem dX1_blamed_54 : decode cX1_blamed 54 = .ok (.goto (-45), 3) := by decide +kernel
theorem dX1_blamed_57 : decode cX1_blamed 57 = .ok (.iload_n 3, 1) := by decide +kernel
theorem dX1_blamed_58 : decode cX1_blamed 58 = .ok (.ireturn, 1) := by decide +kernel
theorem dX1_newNoise_0 : decode cX1_newNoise 0 = .ok (.aload_n 0, 1) := by decide +kernel
theorem dX1_newNoise_1 : decode cX1_newNoise 1 = .ok (.getfield 53, 3) := by decide +kernel
theorem dX1_newNoise_4 : decode cX1_newNoise 4 = .ok (.bipush 63, 2) := by decide +kernel
theorem dX1_newNoise_6 : decode cX1_newNoise 6 = .ok (.if_icmp .lt 5, 3) := by decide +kernel
theorem dX1_newNoise_9 : decode cX1_newNoise 9 = .ok (.iconst (-1), 1) := by decide +kernel
theorem dX1_newNoise_10 : decode cX1_newNoise 10 = .ok (.ireturn, 1) := by decide +kernel
theorem dX1_newNoise_11 : decode cX1_newNoise 11 = .ok (.aload_n 0, 1) := by decide +kernel
theorem dX1_newNoise_12 : decode cX1_newNoise 12 = .ok (.getfield 15, 3) := by decide +kernel
theorem dX1_newNoise_15 : decode cX1_newNoise 15 = .ok (.aload_n 0, 1) := by decide +kernel
theorem dX1_newNoise_16 : decode cX1_newNoise 16 = .ok (.getfield 53, 3) := by decide +kernel
theorem dX1_newNoise_19 : decode cX1_newNoise 19 = .ok (.iload_n 1, 1) := by decide +kernel
theorem dX1_newNoise_20 : decode cX1_newNoise 20 = .ok (.iastore, 1) := by decide +kernel
theorem dX1_newNoise_21 : decode cX1_newNoise 21 = .ok (.aload_n 0, 1) := by decide +kernel
theorem dX1_newNoise_22 : decode cX1_newNoise 22 = .ok (.getfield 18, 3) := by decide +kernel
theorem dX1_newNoise_25 : decode cX1_newNoise 25 = .ok (.aload_n 0, 1) := by decide +kernel
theorem dX1_newNoise_26 : decode cX1_newNoise 26 = .ok (.getfield 53, 3) := by decide +kernel
theorem dX1_newNoise_29 : decode cX1_newNoise 29 = .ok (.iload_n 2, 1) := by decide +kernel
theorem dX1_newNoise_30 : decode cX1_newNoise 30 = .ok (.iastore, 1) := by decide +kernel
theorem dX1_newNoise_31 : decode cX1_newNoise 31 = .ok (.aload_n 0, 1) := by decide +kernel
theorem dX1_newNoise_32 : decode cX1_newNoise 32 = .ok (.dup, 1) := by decide +kernel
theorem dX1_newNoise_33 : decode cX1_newNoise 33 = .ok (.getfield 53, 3) := by decide +kernel
theorem dX1_newNoise_36 : decode cX1_newNoise 36 = .ok (.iconst 1, 1) := by decide +kernel
theorem dX1_newNoise_37 : decode cX1_newNoise 37 = .ok (.iadd, 1) := by decide +kernel
theorem dX1_newNoise_38 : decode cX1_newNoise 38 = .ok (.putfield 53, 3) := by decide +kernel
theorem dX1_newNoise_41 : decode cX1_newNoise 41 = .ok (.aload_n 0, 1) := by decide +kernel
theorem dX1_newNoise_42 : decode cX1_newNoise 42 = .ok (.getfield 53, 3) := by decide +kernel
theorem dX1_newNoise_45 : decode cX1_newNoise 45 = .ok (.iconst 1, 1) := by decide +kernel
theorem dX1_newNoise_46 : decode cX1_newNoise 46 = .ok (.isub, 1) := by decide +kernel
theorem dX1_newNoise_47 : decode cX1_newNoise 47 = .ok (.ireturn, 1) := by decide +kernel
theorem dX1_bring_0 : decode cX1_bring 0 = .ok (.lload_n 2, 1) := by decide +kernel
theorem dX1_bring_1 : decode cX1_bring 1 = .ok (.lconst 0, 1) := by decide +kernel
theorem dX1_bring_2 : decode cX1_bring 2 = .ok (.lcmp, 1) := by decide +kernel
theorem dX1_bring_3 : decode cX1_bring 3 = .ok (.ifCond .eq 16, 3) := by decide +kernel
theorem dX1_bring_6 : decode cX1_bring 6 = .ok (.aload_n 1, 1) := by decide +kernel
theorem dX1_bring_7 : decode cX1_bring 7 = .ok (.aload_n 0, 1) := by decide +kernel
theorem dX1_bring_8 : decode cX1_bring 8 = .ok (.iload 4, 2) := by decide +kernel
theorem dX1_bring_10 : decode cX1_bring 10 = .ok (.iload 5, 2) := by decide +kernel
theorem dX1_bring_12 : decode cX1_bring 12 = .ok (.invokevirtual 122, 3) := by decide +kernel
theorem dX1_bring_15 : decode cX1_bring 15 = .ok (.lload_n 2, 1) := by decide +kernel
theorem dX1_bring_16 : decode cX1_bring 16 = .ok (.invokevirtual 126, 3) := by decide +kernel
theorem dX1_bring_19 : decode cX1_bring 19 = .ok (.return_, 1) := by decide +kernel
theorem dX1_valueIn_0 : decode cX1_valueIn 0 = .ok (.aload_n 1, 1) := by decide +kernel
theorem dX1_valueIn_1 : decode cX1_valueIn 1 = .ok (.getfield 130, 3) := by decide +kernel
theorem dX1_valueIn_4 : decode cX1_valueIn 4 = .ok (.iload_n 2, 1) := by decide +kernel
theorem dX1_valueIn_5 : decode cX1_valueIn 5 = .ok (.iconst 4, 1) := by decide +kernel
theorem dX1_valueIn_6 : decode cX1_valueIn 6 = .ok (.imul, 1) := by decide +kernel
theorem dX1_valueIn_7 : decode cX1_valueIn 7 = .ok (.iload_n 3, 1) := by decide +kernel
theorem dX1_valueIn_8 : decode cX1_valueIn 8 = .ok (.iadd, 1) := by decide +kernel
theorem dX1_valueIn_9 : decode cX1_valueIn 9 = .ok (.iaload, 1) := by decide +kernel
theorem dX1_valueIn_10 : decode cX1_valueIn 10 = .ok (.istore 4, 2) := by decide +kernel
theorem dX1_valueIn_12 : decode cX1_valueIn 12 = .ok (.iload 4, 2) := by decide +kernel
theorem dX1_valueIn_14 : decode cX1_valueIn 14 = .ok (.ifCond .lt 11, 3) := by decide +kernel
theorem dX1_valueIn_17 : decode cX1_valueIn 17 = .ok (.aload_n 0, 1) := by decide +kernel
theorem dX1_valueIn_18 : decode cX1_valueIn 18 = .ok (.getfield 23, 3) := by decide +kernel
theorem dX1_valueIn_21 : decode cX1_valueIn 21 = .ok (.iload 4, 2) := by decide +kernel
theorem dX1_valueIn_23 : decode cX1_valueIn 23 = .ok (.aaload, 1) := by decide +kernel
theorem dX1_valueIn_24 : decode cX1_valueIn 24 = .ok (.areturn, 1) := by decide +kernel
theorem dX1_valueIn_25 : decode cX1_valueIn 25 = .ok (.aload_n 0, 1) := by decide +kernel
theorem dX1_valueIn_26 : decode cX1_valueIn 26 = .ok (.getfield 30, 3) := by decide +kernel
theorem dX1_valueIn_29 : decode cX1_valueIn 29 = .ok (.iload_n 3, 1) := by decide +kernel
theorem dX1_valueIn_30 : decode cX1_valueIn 30 = .ok (.aaload, 1) := by decide +kernel
theorem dX1_valueIn_31 : decode cX1_valueIn 31 = .ok (.astore 5, 2) := by decide +kernel
theorem dX1_valueIn_33 : decode cX1_valueIn 33 = .ok (.aload 5, 2) := by decide +kernel
theorem dX1_valueIn_35 : decode cX1_valueIn 35 = .ok (.aload_n 1, 1) := by decide +kernel
theorem dX1_valueIn_36 : decode cX1_valueIn 36 = .ok (.getfield 133, 3) := by decide +kernel
theorem dX1_valueIn_39 : decode cX1_valueIn 39 = .ok (.iload_n 2, 1) := by decide +kernel
theorem dX1_valueIn_40 : decode cX1_valueIn 40 = .ok (.iconst 4, 1) := by decide +kernel
theorem dX1_valueIn_41 : decode cX1_valueIn 41 = .ok (.imul, 1) := by decide +kernel
theorem dX1_valueIn_42 : decode cX1_valueIn 42 = .ok (.iload_n 3, 1) := by decide +kernel
theorem dX1_valueIn_43 : decode cX1_valueIn 43 = .ok (.iadd, 1) := by decide +kernel
theorem dX1_valueIn_44 : decode cX1_valueIn 44 = .ok (.iaload, 1) := by decide +kernel
theorem dX1_valueIn_45 : decode cX1_valueIn 45 = .ok (.i2l, 1) := by decide +kernel
theorem dX1_valueIn_46 : decode cX1_valueIn 46 = .ok (.invokevirtual 136, 3) := by decide +kernel
theorem dX1_valueIn_49 : decode cX1_valueIn 49 = .ok (.aload 5, 2) := by decide +kernel
theorem dX1_valueIn_51 : decode cX1_valueIn 51 = .ok (.areturn, 1) := by decide +kernel
theorem dX1_driftIn_0 : decode cX1_driftIn 0 = .ok (.aload_n 1, 1) := by decide +kernel
theorem dX1_driftIn_1 : decode cX1_driftIn 1 = .ok (.getfield 130, 3) := by decide +kernel
theorem dX1_driftIn_4 : decode cX1_driftIn 4 = .ok (.iload_n 2, 1) := by decide +kernel
theorem dX1_driftIn_5 : decode cX1_driftIn 5 = .ok (.iconst 4, 1) := by decide +kernel
theorem dX1_driftIn_6 : decode cX1_driftIn 6 = .ok (.imul, 1) := by decide +kernel
theorem dX1_driftIn_7 : decode cX1_driftIn 7 = .ok (.iload_n 3, 1) := by decide +kernel
theorem dX1_driftIn_8 : decode cX1_driftIn 8 = .ok (.iadd, 1) := by decide +kernel
theorem dX1_driftIn_9 : decode cX1_driftIn 9 = .ok (.iaload, 1) := by decide +kernel
theorem dX1_driftIn_10 : decode cX1_driftIn 10 = .ok (.istore 4, 2) := by decide +kernel
theorem dX1_driftIn_12 : decode cX1_driftIn 12 = .ok (.iload 4, 2) := by decide +kernel
theorem dX1_driftIn_14 : decode cX1_driftIn 14 = .ok (.ifCond .lt 13, 3) := by decide +kernel
theorem dX1_driftIn_17 : decode cX1_driftIn 17 = .ok (.aload_n 0, 1) := by decide +kernel
theorem dX1_driftIn_18 : decode cX1_driftIn 18 = .ok (.getfield 27, 3) := by decide +kernel
theorem dX1_driftIn_21 : decode cX1_driftIn 21 = .ok (.iload 4, 2) := by decide +kernel
theorem dX1_driftIn_23 : decode cX1_driftIn 23 = .ok (.aaload, 1) := by decide +kernel
theorem dX1_driftIn_24 : decode cX1_driftIn 24 = .ok (.goto 7, 3) := by decide +kernel
theorem dX1_driftIn_27 : decode cX1_driftIn 27 = .ok (.aload_n 0, 1) := by decide +kernel
theorem dX1_driftIn_28 : decode cX1_driftIn 28 = .ok (.getfield 34, 3) := by decide +kernel
theorem dX1_driftIn_31 : decode cX1_driftIn 31 = .ok (.areturn, 1) := by decide +kernel
theorem dX1_reckonInput_0 : decode cX1_reckonInput 0 = .ok (.aload_n 1, 1) := by decide +kernel
theorem dX1_reckonInput_1 : decode cX1_reckonInput 1 = .ok (.getfield 140, 3) := by decide +kernel
theorem dX1_reckonInput_4 : decode cX1_reckonInput 4 = .ok (.iload_n 2, 1) := by decide +kernel
theorem dX1_reckonInput_5 : decode cX1_reckonInput 5 = .ok (.iaload, 1) := by decide +kernel
theorem dX1_reckonInput_6 : decode cX1_reckonInput 6 = .ok (.aload_n 1, 1) := by decide +kernel
theorem dX1_reckonInput_7 : decode cX1_reckonInput 7 = .ok (.getfield 143, 3) := by decide +kernel
theorem dX1_reckonInput_10 : decode cX1_reckonInput 10 = .ok (.iload_n 2, 1) := by decide +kernel
theorem dX1_reckonInput_11 : decode cX1_reckonInput 11 = .ok (.iaload, 1) := by decide +kernel
theorem dX1_reckonInput_12 : decode cX1_reckonInput 12 = .ok (.isub, 1) := by decide +kernel
theorem dX1_reckonInput_13 : decode cX1_reckonInput 13 = .ok (.iconst 2, 1) := by decide +kernel
theorem dX1_reckonInput_14 : decode cX1_reckonInput 14 = .ok (.idiv, 1) := by decide +kernel
theorem dX1_reckonInput_15 : decode cX1_reckonInput 15 = .ok (.istore_n 3, 1) := by decide +kernel
theorem dX1_reckonInput_16 : decode cX1_reckonInput 16 = .ok (.aload_n 0, 1) := by decide +kernel
theorem dX1_reckonInput_17 : decode cX1_reckonInput 17 = .ok (.getfield 23, 3) := by decide +kernel
theorem dX1_reckonInput_20 : decode cX1_reckonInput 20 = .ok (.iload_n 2, 1) := by decide +kernel
theorem dX1_reckonInput_21 : decode cX1_reckonInput 21 = .ok (.aaload, 1) := by decide +kernel
theorem dX1_reckonInput_22 : decode cX1_reckonInput 22 = .ok (.aload_n 1, 1) := by decide +kernel
theorem dX1_reckonInput_23 : decode cX1_reckonInput 23 = .ok (.getfield 143, 3) := by decide +kernel
theorem dX1_reckonInput_26 : decode cX1_reckonInput 26 = .ok (.iload_n 2, 1) := by decide +kernel
theorem dX1_reckonInput_27 : decode cX1_reckonInput 27 = .ok (.iaload, 1) := by decide +kernel
theorem dX1_reckonInput_28 : decode cX1_reckonInput 28 = .ok (.iload_n 3, 1) := by decide +kernel
theorem dX1_reckonInput_29 : decode cX1_reckonInput 29 = .ok (.iadd, 1) := by decide +kernel
theorem dX1_reckonInput_30 : decode cX1_reckonInput 30 = .ok (.i2l, 1) := by decide +kernel
theorem dX1_reckonInput_31 : decode cX1_reckonInput 31 = .ok (.invokevirtual 136, 3) := by decide +kernel
theorem dX1_reckonInput_34 : decode cX1_reckonInput 34 = .ok (.aload_n 0, 1) := by decide +kernel
theorem dX1_reckonInput_35 : decode cX1_reckonInput 35 = .ok (.getfield 23, 3) := by decide +kernel
theorem dX1_reckonInput_38 : decode cX1_reckonInput 38 = .ok (.iload_n 2, 1) := by decide +kernel
theorem dX1_reckonInput_39 : decode cX1_reckonInput 39 = .ok (.aaload, 1) := by decide +kernel
theorem dX1_reckonInput_40 : decode cX1_reckonInput 40 = .ok (.aload_n 0, 1) := by decide +kernel
theorem dX1_reckonInput_41 : decode cX1_reckonInput 41 = .ok (.iload_n 2, 1) := by decide +kernel
theorem dX1_reckonInput_42 : decode cX1_reckonInput 42 = .ok (.iconst 0, 1) := by decide +kernel
theorem dX1_reckonInput_43 : decode cX1_reckonInput 43 = .ok (.invokevirtual 122, 3) := by decide +kernel
theorem dX1_reckonInput_46 : decode cX1_reckonInput 46 = .ok (.iload_n 3, 1) := by decide +kernel
theorem dX1_reckonInput_47 : decode cX1_reckonInput 47 = .ok (.i2l, 1) := by decide +kernel
theorem dX1_reckonInput_48 : decode cX1_reckonInput 48 = .ok (.invokevirtual 126, 3) := by decide +kernel
theorem dX1_reckonInput_51 : decode cX1_reckonInput 51 = .ok (.aload_n 0, 1) := by decide +kernel
theorem dX1_reckonInput_52 : decode cX1_reckonInput 52 = .ok (.getfield 27, 3) := by decide +kernel
theorem dX1_reckonInput_55 : decode cX1_reckonInput 55 = .ok (.iload_n 2, 1) := by decide +kernel
theorem dX1_reckonInput_56 : decode cX1_reckonInput 56 = .ok (.aaload, 1) := by decide +kernel
theorem dX1_reckonInput_57 : decode cX1_reckonInput 57 = .ok (.lconst 0, 1) := by decide +kernel
theorem dX1_reckonInput_58 : decode cX1_reckonInput 58 = .ok (.invokevirtual 136, 3) := by decide +kernel
theorem dX1_reckonInput_61 : decode cX1_reckonInput 61 = .ok (.aload_n 0, 1) := by decide +kernel
theorem dX1_reckonInput_62 : decode cX1_reckonInput 62 = .ok (.getfield 9, 3) := by decide +kernel
theorem dX1_reckonInput_65 : decode cX1_reckonInput 65 = .ok (.iload_n 2, 1) := by decide +kernel
theorem dX1_reckonInput_66 : decode cX1_reckonInput 66 = .ok (.iconst 0, 1) := by decide +kernel
theorem dX1_reckonInput_67 : decode cX1_reckonInput 67 = .ok (.iastore, 1) := by decide +kernel
theorem dX1_reckonInput_68 : decode cX1_reckonInput 68 = .ok (.return_, 1) := by decide +kernel
theorem dX1_reckonSum_0 : decode cX1_reckonSum 0 = .ok (.aload_n 0, 1) := by decide +kernel
theorem dX1_reckonSum_1 : decode cX1_reckonSum 1 = .ok (.getfield 23, 3) := by decide +kernel
theorem dX1_reckonSum_4 : decode cX1_reckonSum 4 = .ok (.iload_n 2, 1) := by decide +kernel
theorem dX1_reckonSum_5 : decode cX1_reckonSum 5 = .ok (.aaload, 1) := by decide +kernel
theorem dX1_reckonSum_6 : decode cX1_reckonSum 6 = .ok (.lconst 0, 1) := by decide +kernel
theorem dX1_reckonSum_7 : decode cX1_reckonSum 7 = .ok (.invokevirtual 136, 3) := by decide +kernel
theorem dX1_reckonSum_10 : decode cX1_reckonSum 10 = .ok (.aload_n 0, 1) := by decide +kernel
theorem dX1_reckonSum_11 : decode cX1_reckonSum 11 = .ok (.getfield 23, 3) := by decide +kernel
theorem dX1_reckonSum_14 : decode cX1_reckonSum 14 = .ok (.iload_n 2, 1) := by decide +kernel
theorem dX1_reckonSum_15 : decode cX1_reckonSum 15 = .ok (.aaload, 1) := by decide +kernel
theorem dX1_reckonSum_16 : decode cX1_reckonSum 16 = .ok (.aload_n 0, 1) := by decide +kernel
theorem dX1_reckonSum_17 : decode cX1_reckonSum 17 = .ok (.aload_n 1, 1) := by decide +kernel
theorem dX1_reckonSum_18 : decode cX1_reckonSum 18 = .ok (.iload_n 2, 1) := by decide +kernel
theorem dX1_reckonSum_19 : decode cX1_reckonSum 19 = .ok (.iconst 0, 1) := by decide +kernel
theorem dX1_reckonSum_20 : decode cX1_reckonSum 20 = .ok (.invokevirtual 146, 3) := by decide +kernel
theorem dX1_reckonSum_23 : decode cX1_reckonSum 23 = .ok (.lconst 1, 1) := by decide +kernel
theorem dX1_reckonSum_24 : decode cX1_reckonSum 24 = .ok (.invokevirtual 150, 3) := by decide +kernel
theorem dX1_reckonSum_27 : decode cX1_reckonSum 27 = .ok (.aload_n 0, 1) := by decide +kernel
theorem dX1_reckonSum_28 : decode cX1_reckonSum 28 = .ok (.getfield 23, 3) := by decide +kernel
theorem dX1_reckonSum_31 : decode cX1_reckonSum 31 = .ok (.iload_n 2, 1) := by decide +kernel
theorem dX1_reckonSum_32 : decode cX1_reckonSum 32 = .ok (.aaload, 1) := by decide +kernel
theorem dX1_reckonSum_33 : decode cX1_reckonSum 33 = .ok (.aload_n 0, 1) := by decide +kernel
theorem dX1_reckonSum_34 : decode cX1_reckonSum 34 = .ok (.aload_n 1, 1) := by decide +kernel
theorem dX1_reckonSum_35 : decode cX1_reckonSum 35 = .ok (.iload_n 2, 1) := by decide +kernel
theorem dX1_reckonSum_36 : decode cX1_reckonSum 36 = .ok (.iconst 1, 1) := by decide +kernel
theorem dX1_reckonSum_37 : decode cX1_reckonSum 37 = .ok (.invokevirtual 146, 3) := by decide +kernel
theorem dX1_reckonSum_40 : decode cX1_reckonSum 40 = .ok (.iload_n 3, 1) := by decide +kernel
theorem dX1_reckonSum_41 : decode cX1_reckonSum 41 = .ok (.i2l, 1) := by decide +kernel
theorem dX1_reckonSum_42 : decode cX1_reckonSum 42 = .ok (.invokevirtual 150, 3) := by decide +kernel
theorem dX1_reckonSum_45 : decode cX1_reckonSum 45 = .ok (.aload_n 0, 1) := by decide +kernel
theorem dX1_reckonSum_46 : decode cX1_reckonSum 46 = .ok (.getfield 27, 3) := by decide +kernel
theorem dX1_reckonSum_49 : decode cX1_reckonSum 49 = .ok (.iload_n 2, 1) := by decide +kernel
theorem dX1_reckonSum_50 : decode cX1_reckonSum 50 = .ok (.aaload, 1) := by decide +kernel
theorem dX1_reckonSum_51 : decode cX1_reckonSum 51 = .ok (.lconst 0, 1) := by decide +kernel
theorem dX1_reckonSum_52 : decode cX1_reckonSum 52 = .ok (.invokevirtual 136, 3) := by decide +kernel
theorem dX1_reckonSum_55 : decode cX1_reckonSum 55 = .ok (.aload_n 0, 1) := by decide +kernel
theorem dX1_reckonSum_56 : decode cX1_reckonSum 56 = .ok (.getfield 27, 3) := by decide +kernel
theorem dX1_reckonSum_59 : decode cX1_reckonSum 59 = .ok (.iload_n 2, 1) := by decide +kernel
theorem dX1_reckonSum_60 : decode cX1_reckonSum 60 = .ok (.aaload, 1) := by decide +kernel
theorem dX1_reckonSum_61 : decode cX1_reckonSum 61 = .ok (.aload_n 0, 1) := by decide +kernel
theorem dX1_reckonSum_62 : decode cX1_reckonSum 62 = .ok (.aload_n 1, 1) := by decide +kernel
theorem dX1_reckonSum_63 : decode cX1_reckonSum 63 = .ok (.iload_n 2, 1) := by decide +kernel
theorem dX1_reckonSum_64 : decode cX1_reckonSum 64 = .ok (.iconst 0, 1) := by decide +kernel
theorem dX1_reckonSum_65 : decode cX1_reckonSum 65 = .ok (.invokevirtual 154, 3) := by decide +kernel
theorem dX1_reckonSum_68 : decode cX1_reckonSum 68 = .ok (.lconst 1, 1) := by decide +kernel
theorem dX1_reckonSum_69 : decode cX1_reckonSum 69 = .ok (.invokevirtual 150, 3) := by decide +kernel
theorem dX1_reckonSum_72 : decode cX1_reckonSum 72 = .ok (.aload_n 0, 1) := by decide +kernel
theorem dX1_reckonSum_73 : decode cX1_reckonSum 73 = .ok (.getfield 27, 3) := by decide +kernel
theorem dX1_reckonSum_76 : decode cX1_reckonSum 76 = .ok (.iload_n 2, 1) := by decide +kernel
theorem dX1_reckonSum_77 : decode cX1_reckonSum 77 = .ok (.aaload, 1) := by decide +kernel
theorem dX1_reckonSum_78 : decode cX1_reckonSum 78 = .ok (.aload_n 0, 1) := by decide +kernel
theorem dX1_reckonSum_79 : decode cX1_reckonSum 79 = .ok (.aload_n 1, 1) := by decide +kernel
theorem dX1_reckonSum_80 : decode cX1_reckonSum 80 = .ok (.iload_n 2, 1) := by decide +kernel
theorem dX1_reckonSum_81 : decode cX1_reckonSum 81 = .ok (.iconst 1, 1) := by decide +kernel
theorem dX1_reckonSum_82 : decode cX1_reckonSum 82 = .ok (.invokevirtual 154, 3) := by decide +kernel
theorem dX1_reckonSum_85 : decode cX1_reckonSum 85 = .ok (.iload_n 3, 1) := by decide +kernel
theorem dX1_reckonSum_86 : decode cX1_reckonSum 86 = .ok (.i2l, 1) := by decide +kernel
theorem dX1_reckonSum_87 : decode cX1_reckonSum 87 = .ok (.invokevirtual 150, 3) := by decide +kernel
theorem dX1_reckonSum_90 : decode cX1_reckonSum 90 = .ok (.aload_n 0, 1) := by decide +kernel
theorem dX1_reckonSum_91 : decode cX1_reckonSum 91 = .ok (.getfield 9, 3) := by decide +kernel
theorem dX1_reckonSum_94 : decode cX1_reckonSum 94 = .ok (.iload_n 2, 1) := by decide +kernel
theorem dX1_reckonSum_95 : decode cX1_reckonSum 95 = .ok (.iconst 0, 1) := by decide +kernel
theorem dX1_reckonSum_96 : decode cX1_reckonSum 96 = .ok (.iastore, 1) := by decide +kernel
theorem dX1_reckonSum_97 : decode cX1_reckonSum 97 = .ok (.return_, 1) := by decide +kernel
theorem dX1_reckonProduct_0 : decode cX1_reckonProduct 0 = .ok (.aload_n 0, 1) := by decide +kernel
theorem dX1_reckonProduct_1 : decode cX1_reckonProduct 1 = .ok (.aload_n 1, 1) := by decide +kernel
theorem dX1_reckonProduct_2 : decode cX1_reckonProduct 2 = .ok (.iload_n 2, 1) := by decide +kernel
theorem dX1_reckonProduct_3 : decode cX1_reckonProduct 3 = .ok (.iconst 0, 1) := by decide +kernel
theorem dX1_reckonProduct_4 : decode cX1_reckonProduct 4 = .ok (.invokevirtual 146, 3) := by decide +kernel
theorem dX1_reckonProduct_7 : decode cX1_reckonProduct 7 = .ok (.astore_n 3, 1) := by decide +kernel
theorem dX1_reckonProduct_8 : decode cX1_reckonProduct 8 = .ok (.aload_n 0, 1) := by decide +kernel
theorem dX1_reckonProduct_9 : decode cX1_reckonProduct 9 = .ok (.aload_n 1, 1) := by decide +kernel
theorem dX1_reckonProduct_10 : decode cX1_reckonProduct 10 = .ok (.iload_n 2, 1) := by decide +kernel
theorem dX1_reckonProduct_11 : decode cX1_reckonProduct 11 = .ok (.iconst 1, 1) := by decide +kernel
theorem dX1_reckonProduct_12 : decode cX1_reckonProduct 12 = .ok (.invokevirtual 146, 3) := by decide +kernel
theorem dX1_reckonProduct_15 : decode cX1_reckonProduct 15 = .ok (.astore 4, 2) := by decide +kernel
theorem dX1_reckonProduct_17 : decode cX1_reckonProduct 17 = .ok (.aload_n 0, 1) := by decide +kernel
theorem dX1_reckonProduct_18 : decode cX1_reckonProduct 18 = .ok (.aload_n 1, 1) := by decide +kernel
theorem dX1_reckonProduct_19 : decode cX1_reckonProduct 19 = .ok (.iload_n 2, 1) := by decide +kernel
theorem dX1_reckonProduct_20 : decode cX1_reckonProduct 20 = .ok (.iconst 0, 1) := by decide +kernel
theorem dX1_reckonProduct_21 : decode cX1_reckonProduct 21 = .ok (.invokevirtual 154, 3) := by decide +kernel
theorem dX1_reckonProduct_24 : decode cX1_reckonProduct 24 = .ok (.astore 5, 2) := by decide +kernel
theorem dX1_reckonProduct_26 : decode cX1_reckonProduct 26 = .ok (.aload_n 0, 1) := by decide +kernel
theorem dX1_reckonProduct_27 : decode cX1_reckonProduct 27 = .ok (.aload_n 1, 1) := by decide +kernel
theorem dX1_reckonProduct_28 : decode cX1_reckonProduct 28 = .ok (.iload_n 2, 1) := by decide +kernel
theorem dX1_reckonProduct_29 : decode cX1_reckonProduct 29 = .ok (.iconst 1, 1) := by decide +kernel
theorem dX1_reckonProduct_30 : decode cX1_reckonProduct 30 = .ok (.invokevirtual 154, 3) := by decide +kernel
theorem dX1_reckonProduct_33 : decode cX1_reckonProduct 33 = .ok (.astore 6, 2) := by decide +kernel
theorem dX1_reckonProduct_35 : decode cX1_reckonProduct 35 = .ok (.aload_n 0, 1) := by decide +kernel
theorem dX1_reckonProduct_36 : decode cX1_reckonProduct 36 = .ok (.getfield 23, 3) := by decide +kernel
theorem dX1_reckonProduct_39 : decode cX1_reckonProduct 39 = .ok (.iload_n 2, 1) := by decide +kernel
theorem dX1_reckonProduct_40 : decode cX1_reckonProduct 40 = .ok (.aaload, 1) := by decide +kernel
theorem dX1_reckonProduct_41 : decode cX1_reckonProduct 41 = .ok (.lconst 0, 1) := by decide +kernel
theorem dX1_reckonProduct_42 : decode cX1_reckonProduct 42 = .ok (.invokevirtual 136, 3) := by decide +kernel
theorem dX1_reckonProduct_45 : decode cX1_reckonProduct 45 = .ok (.aload_n 0, 1) := by decide +kernel
theorem dX1_reckonProduct_46 : decode cX1_reckonProduct 46 = .ok (.aload_n 0, 1) := by decide +kernel
theorem dX1_reckonProduct_47 : decode cX1_reckonProduct 47 = .ok (.getfield 23, 3) := by decide +kernel
theorem dX1_reckonProduct_50 : decode cX1_reckonProduct 50 = .ok (.iload_n 2, 1) := by decide +kernel
theorem dX1_reckonProduct_51 : decode cX1_reckonProduct 51 = .ok (.aaload, 1) := by decide +kernel
theorem dX1_reckonProduct_52 : decode cX1_reckonProduct 52 = .ok (.aload_n 3, 1) := by decide +kernel
theorem dX1_reckonProduct_53 : decode cX1_reckonProduct 53 = .ok (.aload 4, 2) := by decide +kernel
theorem dX1_reckonProduct_55 : decode cX1_reckonProduct 55 = .ok (.iload_n 2, 1) := by decide +kernel
theorem dX1_reckonProduct_56 : decode cX1_reckonProduct 56 = .ok (.invokevirtual 157, 3) := by decide +kernel
theorem dX1_reckonProduct_59 : decode cX1_reckonProduct 59 = .ok (.aload_n 0, 1) := by decide +kernel
theorem dX1_reckonProduct_60 : decode cX1_reckonProduct 60 = .ok (.getfield 27, 3) := by decide +kernel
theorem dX1_reckonProduct_63 : decode cX1_reckonProduct 63 = .ok (.iload_n 2, 1) := by decide +kernel
theorem dX1_reckonProduct_64 : decode cX1_reckonProduct 64 = .ok (.aaload, 1) := by decide +kernel
theorem dX1_reckonProduct_65 : decode cX1_reckonProduct 65 = .ok (.lconst 0, 1) := by decide +kernel
theorem dX1_reckonProduct_66 : decode cX1_reckonProduct 66 = .ok (.invokevirtual 136, 3) := by decide +kernel
theorem dX1_reckonProduct_69 : decode cX1_reckonProduct 69 = .ok (.aload_n 0, 1) := by decide +kernel
theorem dX1_reckonProduct_70 : decode cX1_reckonProduct 70 = .ok (.aload_n 0, 1) := by decide +kernel
theorem dX1_reckonProduct_71 : decode cX1_reckonProduct 71 = .ok (.getfield 27, 3) := by decide +kernel
theorem dX1_reckonProduct_74 : decode cX1_reckonProduct 74 = .ok (.iload_n 2, 1) := by decide +kernel
theorem dX1_reckonProduct_75 : decode cX1_reckonProduct 75 = .ok (.aaload, 1) := by decide +kernel
theorem dX1_reckonProduct_76 : decode cX1_reckonProduct 76 = .ok (.aload_n 3, 1) := by decide +kernel
theorem dX1_reckonProduct_77 : decode cX1_reckonProduct 77 = .ok (.aload 6, 2) := by decide +kernel
theorem dX1_reckonProduct_79 : decode cX1_reckonProduct 79 = .ok (.iload_n 2, 1) := by decide +kernel
theorem dX1_reckonProduct_80 : decode cX1_reckonProduct 80 = .ok (.invokevirtual 157, 3) := by decide +kernel
theorem dX1_reckonProduct_83 : decode cX1_reckonProduct 83 = .ok (.aload_n 0, 1) := by decide +kernel
theorem dX1_reckonProduct_84 : decode cX1_reckonProduct 84 = .ok (.aload_n 0, 1) := by decide +kernel
theorem dX1_reckonProduct_85 : decode cX1_reckonProduct 85 = .ok (.getfield 27, 3) := by decide +kernel
theorem dX1_reckonProduct_88 : decode cX1_reckonProduct 88 = .ok (.iload_n 2, 1) := by decide +kernel
theorem dX1_reckonProduct_89 : decode cX1_reckonProduct 89 = .ok (.aaload, 1) := by decide +kernel
theorem dX1_reckonProduct_90 : decode cX1_reckonProduct 90 = .ok (.aload 5, 2) := by decide +kernel
theorem dX1_reckonProduct_92 : decode cX1_reckonProduct 92 = .ok (.aload 4, 2) := by decide +kernel
theorem dX1_reckonProduct_94 : decode cX1_reckonProduct 94 = .ok (.iload_n 2, 1) := by decide +kernel
theorem dX1_reckonProduct_95 : decode cX1_reckonProduct 95 = .ok (.invokevirtual 157, 3) := by decide +kernel
theorem dX1_reckonProduct_98 : decode cX1_reckonProduct 98 = .ok (.aload_n 0, 1) := by decide +kernel
theorem dX1_reckonProduct_99 : decode cX1_reckonProduct 99 = .ok (.aload_n 0, 1) := by decide +kernel
theorem dX1_reckonProduct_100 : decode cX1_reckonProduct 100 = .ok (.getfield 27, 3) := by decide +kernel
theorem dX1_reckonProduct_103 : decode cX1_reckonProduct 103 = .ok (.iload_n 2, 1) := by decide +kernel
theorem dX1_reckonProduct_104 : decode cX1_reckonProduct 104 = .ok (.aaload, 1) := by decide +kernel
theorem dX1_reckonProduct_105 : decode cX1_reckonProduct 105 = .ok (.aload 5, 2) := by decide +kernel
theorem dX1_reckonProduct_107 : decode cX1_reckonProduct 107 = .ok (.aload 6, 2) := by decide +kernel
theorem dX1_reckonProduct_109 : decode cX1_reckonProduct 109 = .ok (.iload_n 2, 1) := by decide +kernel
theorem dX1_reckonProduct_110 : decode cX1_reckonProduct 110 = .ok (.invokevirtual 157, 3) := by decide +kernel
theorem dX1_reckonProduct_113 : decode cX1_reckonProduct 113 = .ok (.aload_n 0, 1) := by decide +kernel
theorem dX1_reckonProduct_114 : decode cX1_reckonProduct 114 = .ok (.getfield 9, 3) := by decide +kernel
theorem dX1_reckonProduct_117 : decode cX1_reckonProduct 117 = .ok (.iload_n 2, 1) := by decide +kernel
theorem dX1_reckonProduct_118 : decode cX1_reckonProduct 118 = .ok (.iconst 0, 1) := by decide +kernel
theorem dX1_reckonProduct_119 : decode cX1_reckonProduct 119 = .ok (.iastore, 1) := by decide +kernel
theorem dX1_reckonProduct_120 : decode cX1_reckonProduct 120 = .ok (.return_, 1) := by decide +kernel
theorem dX1_addProduct_0 : decode cX1_addProduct 0 = .ok (.aload_n 1, 1) := by decide +kernel
theorem dX1_addProduct_1 : decode cX1_addProduct 1 = .ok (.aload_n 3, 1) := by decide +kernel
theorem dX1_addProduct_2 : decode cX1_addProduct 2 = .ok (.aload_n 2, 1) := by decide +kernel
theorem dX1_addProduct_3 : decode cX1_addProduct 3 = .ok (.getfield 96, 3) := by decide +kernel
theorem dX1_addProduct_6 : decode cX1_addProduct 6 = .ok (.invokevirtual 150, 3) := by decide +kernel
theorem dX1_addProduct_9 : decode cX1_addProduct 9 = .ok (.aload_n 1, 1) := by decide +kernel
theorem dX1_addProduct_10 : decode cX1_addProduct 10 = .ok (.aload_n 2, 1) := by decide +kernel
theorem dX1_addProduct_11 : decode cX1_addProduct 11 = .ok (.aload_n 3, 1) := by decide +kernel
theorem dX1_addProduct_12 : decode cX1_addProduct 12 = .ok (.getfield 96, 3) := by decide +kernel
theorem dX1_addProduct_15 : decode cX1_addProduct 15 = .ok (.invokevirtual 161, 3) := by decide +kernel
theorem dX1_addProduct_18 : decode cX1_addProduct 18 = .ok (.aload_n 0, 1) := by decide +kernel
theorem dX1_addProduct_19 : decode cX1_addProduct 19 = .ok (.aload_n 1, 1) := by decide +kernel
theorem dX1_addProduct_20 : decode cX1_addProduct 20 = .ok (.aload_n 2, 1) := by decide +kernel
theorem dX1_addProduct_21 : decode cX1_addProduct 21 = .ok (.invokevirtual 100, 3) := by decide +kernel
theorem dX1_addProduct_24 : decode cX1_addProduct 24 = .ok (.aload_n 3, 1) := by decide +kernel
theorem dX1_addProduct_25 : decode cX1_addProduct 25 = .ok (.invokevirtual 100, 3) := by decide +kernel
theorem dX1_addProduct_28 : decode cX1_addProduct 28 = .ok (.lmul, 1) := by decide +kernel
theorem dX1_addProduct_29 : decode cX1_addProduct 29 = .ok (.iload 4, 2) := by decide +kernel
theorem dX1_addProduct_31 : decode cX1_addProduct 31 = .ok (.iconst 1, 1) := by decide +kernel
theorem dX1_addProduct_32 : decode cX1_addProduct 32 = .ok (.invokevirtual 92, 3) := by decide +kernel
theorem dX1_addProduct_35 : decode cX1_addProduct 35 = .ok (.return_, 1) := by decide +kernel
theorem dX1_reckonPick_0 : decode cX1_reckonPick 0 = .ok (.aload_n 0, 1) := by decide +kernel
theorem dX1_reckonPick_1 : decode cX1_reckonPick 1 = .ok (.aload_n 1, 1) := by decide +kernel
theorem dX1_reckonPick_2 : decode cX1_reckonPick 2 = .ok (.iload_n 2, 1) := by decide +kernel
theorem dX1_reckonPick_3 : decode cX1_reckonPick 3 = .ok (.invokevirtual 164, 3) := by decide +kernel
theorem dX1_reckonPick_6 : decode cX1_reckonPick 6 = .ok (.istore_n 3, 1) := by decide +kernel
theorem dX1_reckonPick_7 : decode cX1_reckonPick 7 = .ok (.aload_n 0, 1) := by decide +kernel
theorem dX1_reckonPick_8 : decode cX1_reckonPick 8 = .ok (.getfield 9, 3) := by decide +kernel
theorem dX1_reckonPick_11 : decode cX1_reckonPick 11 = .ok (.iload_n 2, 1) := by decide +kernel
theorem dX1_reckonPick_12 : decode cX1_reckonPick 12 = .ok (.iload_n 3, 1) := by decide +kernel
theorem dX1_reckonPick_13 : decode cX1_reckonPick 13 = .ok (.iastore, 1) := by decide +kernel
theorem dX1_reckonPick_14 : decode cX1_reckonPick 14 = .ok (.aload_n 0, 1) := by decide +kernel
theorem dX1_reckonPick_15 : decode cX1_reckonPick 15 = .ok (.aload_n 1, 1) := by decide +kernel
theorem dX1_reckonPick_16 : decode cX1_reckonPick 16 = .ok (.iload_n 2, 1) := by decide +kernel
theorem dX1_reckonPick_17 : decode cX1_reckonPick 17 = .ok (.iconst 2, 1) := by decide +kernel
theorem dX1_reckonPick_18 : decode cX1_reckonPick 18 = .ok (.invokevirtual 146, 3) := by decide +kernel
theorem dX1_reckonPick_21 : decode cX1_reckonPick 21 = .ok (.astore 4, 2) := by decide +kernel
theorem dX1_reckonPick_23 : decode cX1_reckonPick 23 = .ok (.aload_n 0, 1) := by decide +kernel
theorem dX1_reckonPick_24 : decode cX1_reckonPick 24 = .ok (.aload_n 1, 1) := by decide +kernel
theorem dX1_reckonPick_25 : decode cX1_reckonPick 25 = .ok (.iload_n 2, 1) := by decide +kernel
theorem dX1_reckonPick_26 : decode cX1_reckonPick 26 = .ok (.iconst 3, 1) := by decide +kernel
theorem dX1_reckonPick_27 : decode cX1_reckonPick 27 = .ok (.invokevirtual 146, 3) := by decide +kernel
theorem dX1_reckonPick_30 : decode cX1_reckonPick 30 = .ok (.astore 5, 2) := by decide +kernel
theorem dX1_reckonPick_32 : decode cX1_reckonPick 32 = .ok (.aload_n 0, 1) := by decide +kernel
theorem dX1_reckonPick_33 : decode cX1_reckonPick 33 = .ok (.aload_n 1, 1) := by decide +kernel
theorem dX1_reckonPick_34 : decode cX1_reckonPick 34 = .ok (.iload_n 2, 1) := by decide +kernel
theorem dX1_reckonPick_35 : decode cX1_reckonPick 35 = .ok (.iconst 2, 1) := by decide +kernel
theorem dX1_reckonPick_36 : decode cX1_reckonPick 36 = .ok (.invokevirtual 154, 3) := by decide +kernel
theorem dX1_reckonPick_39 : decode cX1_reckonPick 39 = .ok (.astore 6, 2) := by decide +kernel
theorem dX1_reckonPick_41 : decode cX1_reckonPick 41 = .ok (.aload_n 0, 1) := by decide +kernel
theorem dX1_reckonPick_42 : decode cX1_reckonPick 42 = .ok (.aload_n 1, 1) := by decide +kernel
theorem dX1_reckonPick_43 : decode cX1_reckonPick 43 = .ok (.iload_n 2, 1) := by decide +kernel
theorem dX1_reckonPick_44 : decode cX1_reckonPick 44 = .ok (.iconst 3, 1) := by decide +kernel
theorem dX1_reckonPick_45 : decode cX1_reckonPick 45 = .ok (.invokevirtual 154, 3) := by decide +kernel
theorem dX1_reckonPick_48 : decode cX1_reckonPick 48 = .ok (.astore 7, 2) := by decide +kernel
theorem dX1_reckonPick_50 : decode cX1_reckonPick 50 = .ok (.aload_n 0, 1) := by decide +kernel
theorem dX1_reckonPick_51 : decode cX1_reckonPick 51 = .ok (.iconst 0, 1) := by decide +kernel
theorem dX1_reckonPick_52 : decode cX1_reckonPick 52 = .ok (.putfield 168, 3) := by decide +kernel
theorem dX1_reckonPick_55 : decode cX1_reckonPick 55 = .ok (.aload_n 0, 1) := by decide +kernel
theorem dX1_reckonPick_56 : decode cX1_reckonPick 56 = .ok (.iload_n 3, 1) := by decide +kernel
theorem dX1_reckonPick_57 : decode cX1_reckonPick 57 = .ok (.iconst 1, 1) := by decide +kernel
theorem dX1_reckonPick_58 : decode cX1_reckonPick 58 = .ok (.iand, 1) := by decide +kernel
theorem dX1_reckonPick_59 : decode cX1_reckonPick 59 = .ok (.ifCond .eq 7, 3) := by decide +kernel
theorem dX1_reckonPick_62 : decode cX1_reckonPick 62 = .ok (.iconst 1, 1) := by decide +kernel
theorem dX1_reckonPick_63 : decode cX1_reckonPick 63 = .ok (.goto 4, 3) := by decide +kernel
theorem dX1_reckonPick_66 : decode cX1_reckonPick 66 = .ok (.iconst 0, 1) := by decide +kernel
theorem dX1_reckonPick_67 : decode cX1_reckonPick 67 = .ok (.aload 4, 2) := by decide +kernel
theorem dX1_reckonPick_69 : decode cX1_reckonPick 69 = .ok (.invokevirtual 171, 3) := by decide +kernel
theorem dX1_reckonPick_72 : decode cX1_reckonPick 72 = .ok (.aload_n 0, 1) := by decide +kernel
theorem dX1_reckonPick_73 : decode cX1_reckonPick 73 = .ok (.iload_n 3, 1) := by decide +kernel
theorem dX1_reckonPick_74 : decode cX1_reckonPick 74 = .ok (.iconst 2, 1) := by decide +kernel
theorem dX1_reckonPick_75 : decode cX1_reckonPick 75 = .ok (.iand, 1) := by decide +kernel
theorem dX1_reckonPick_76 : decode cX1_reckonPick 76 = .ok (.ifCond .eq 7, 3) := by decide +kernel
theorem dX1_reckonPick_79 : decode cX1_reckonPick 79 = .ok (.iconst 1, 1) := by decide +kernel
theorem dX1_reckonPick_80 : decode cX1_reckonPick 80 = .ok (.goto 4, 3) := by decide +kernel
theorem dX1_reckonPick_83 : decode cX1_reckonPick 83 = .ok (.iconst 0, 1) := by decide +kernel
theorem dX1_reckonPick_84 : decode cX1_reckonPick 84 = .ok (.aload 5, 2) := by decide +kernel
theorem dX1_reckonPick_86 : decode cX1_reckonPick 86 = .ok (.invokevirtual 171, 3) := by decide +kernel
theorem dX1_reckonPick_89 : decode cX1_reckonPick 89 = .ok (.aload_n 0, 1) := by decide +kernel
theorem dX1_reckonPick_90 : decode cX1_reckonPick 90 = .ok (.aload_n 0, 1) := by decide +kernel
theorem dX1_reckonPick_91 : decode cX1_reckonPick 91 = .ok (.getfield 23, 3) := by decide +kernel
theorem dX1_reckonPick_94 : decode cX1_reckonPick 94 = .ok (.iload_n 2, 1) := by decide +kernel
theorem dX1_reckonPick_95 : decode cX1_reckonPick 95 = .ok (.aaload, 1) := by decide +kernel
theorem dX1_reckonPick_96 : decode cX1_reckonPick 96 = .ok (.iload_n 2, 1) := by decide +kernel
theorem dX1_reckonPick_97 : decode cX1_reckonPick 97 = .ok (.invokevirtual 175, 3) := by decide +kernel
theorem dX1_reckonPick_100 : decode cX1_reckonPick 100 = .ok (.aload_n 0, 1) := by decide +kernel
theorem dX1_reckonPick_101 : decode cX1_reckonPick 101 = .ok (.iconst 0, 1) := by decide +kernel
theorem dX1_reckonPick_102 : decode cX1_reckonPick 102 = .ok (.putfield 168, 3) := by decide +kernel
theorem dX1_reckonPick_105 : decode cX1_reckonPick 105 = .ok (.aload_n 0, 1) := by decide +kernel
theorem dX1_reckonPick_106 : decode cX1_reckonPick 106 = .ok (.iload_n 3, 1) := by decide +kernel
theorem dX1_reckonPick_107 : decode cX1_reckonPick 107 = .ok (.iconst 1, 1) := by decide +kernel
theorem dX1_reckonPick_108 : decode cX1_reckonPick 108 = .ok (.iand, 1) := by decide +kernel
theorem dX1_reckonPick_109 : decode cX1_reckonPick 109 = .ok (.ifCond .eq 13, 3) := by decide +kernel
theorem dX1_reckonPick_112 : decode cX1_reckonPick 112 = .ok (.iload_n 3, 1) := by decide +kernel
theorem dX1_reckonPick_113 : decode cX1_reckonPick 113 = .ok (.iconst 4, 1) := by decide +kernel
theorem dX1_reckonPick_114 : decode cX1_reckonPick 114 = .ok (.iand, 1) := by decide +kernel
theorem dX1_reckonPick_115 : decode cX1_reckonPick 115 = .ok (.ifCond .eq 7, 3) := by decide +kernel
theorem dX1_reckonPick_118 : decode cX1_reckonPick 118 = .ok (.iconst 1, 1) := by decide +kernel
theorem dX1_reckonPick_119 : decode cX1_reckonPick 119 = .ok (.goto 4, 3) := by decide +kernel
theorem dX1_reckonPick_122 : decode cX1_reckonPick 122 = .ok (.iconst 0, 1) := by decide +kernel
theorem dX1_reckonPick_123 : decode cX1_reckonPick 123 = .ok (.aload 6, 2) := by decide +kernel
theorem dX1_reckonPick_125 : decode cX1_reckonPick 125 = .ok (.invokevirtual 171, 3) := by decide +kernel
theorem dX1_reckonPick_128 : decode cX1_reckonPick 128 = .ok (.aload_n 0, 1) := by decide +kernel
theorem dX1_reckonPick_129 : decode cX1_reckonPick 129 = .ok (.iload_n 3, 1) := by decide +kernel
theorem dX1_reckonPick_130 : decode cX1_reckonPick 130 = .ok (.iconst 2, 1) := by decide +kernel
theorem dX1_reckonPick_131 : decode cX1_reckonPick 131 = .ok (.iand, 1) := by decide +kernel
theorem dX1_reckonPick_132 : decode cX1_reckonPick 132 = .ok (.ifCond .eq 14, 3) := by decide +kernel
theorem dX1_reckonPick_135 : decode cX1_reckonPick 135 = .ok (.iload_n 3, 1) := by decide +kernel
theorem dX1_reckonPick_136 : decode cX1_reckonPick 136 = .ok (.bipush 8, 2) := by decide +kernel
theorem dX1_reckonPick_138 : decode cX1_reckonPick 138 = .ok (.iand, 1) := by decide +kernel
theorem dX1_reckonPick_139 : decode cX1_reckonPick 139 = .ok (.ifCond .eq 7, 3) := by decide +kernel
theorem dX1_reckonPick_142 : decode cX1_reckonPick 142 = .ok (.iconst 1, 1) := by decide +kernel
theorem dX1_reckonPick_143 : decode cX1_reckonPick 143 = .ok (.goto 4, 3) := by decide +kernel
theorem dX1_reckonPick_146 : decode cX1_reckonPick 146 = .ok (.iconst 0, 1) := by decide +kernel
theorem dX1_reckonPick_147 : decode cX1_reckonPick 147 = .ok (.aload 7, 2) := by decide +kernel
theorem dX1_reckonPick_149 : decode cX1_reckonPick 149 = .ok (.invokevirtual 171, 3) := by decide +kernel
theorem dX1_reckonPick_152 : decode cX1_reckonPick 152 = .ok (.aload_n 0, 1) := by decide +kernel
theorem dX1_reckonPick_153 : decode cX1_reckonPick 153 = .ok (.aload_n 0, 1) := by decide +kernel
theorem dX1_reckonPick_154 : decode cX1_reckonPick 154 = .ok (.getfield 44, 3) := by decide +kernel
theorem dX1_reckonPick_157 : decode cX1_reckonPick 157 = .ok (.aload 5, 2) := by decide +kernel
theorem dX1_reckonPick_159 : decode cX1_reckonPick 159 = .ok (.aload 7, 2) := by decide +kernel
theorem dX1_reckonPick_161 : decode cX1_reckonPick 161 = .ok (.aload 4, 2) := by decide +kernel
theorem dX1_reckonPick_163 : decode cX1_reckonPick 163 = .ok (.invokevirtual 179, 3) := by decide +kernel
theorem dX1_reckonPick_166 : decode cX1_reckonPick 166 = .ok (.aload_n 0, 1) := by decide +kernel
theorem dX1_reckonPick_167 : decode cX1_reckonPick 167 = .ok (.iload_n 3, 1) := by decide +kernel
theorem dX1_reckonPick_168 : decode cX1_reckonPick 168 = .ok (.bipush 16, 2) := by decide +kernel
theorem dX1_reckonPick_170 : decode cX1_reckonPick 170 = .ok (.iand, 1) := by decide +kernel
theorem dX1_reckonPick_171 : decode cX1_reckonPick 171 = .ok (.ifCond .eq 7, 3) := by decide +kernel
theorem dX1_reckonPick_174 : decode cX1_reckonPick 174 = .ok (.iconst 1, 1) := by decide +kernel
theorem dX1_reckonPick_175 : decode cX1_reckonPick 175 = .ok (.goto 4, 3) := by decide +kernel
theorem dX1_reckonPick_178 : decode cX1_reckonPick 178 = .ok (.iconst 0, 1) := by decide +kernel
theorem dX1_reckonPick_179 : decode cX1_reckonPick 179 = .ok (.aload_n 0, 1) := by decide +kernel
theorem dX1_reckonPick_180 : decode cX1_reckonPick 180 = .ok (.getfield 44, 3) := by decide +kernel
theorem dX1_reckonPick_183 : decode cX1_reckonPick 183 = .ok (.invokevirtual 171, 3) := by decide +kernel
theorem dX1_reckonPick_186 : decode cX1_reckonPick 186 = .ok (.aload_n 0, 1) := by decide +kernel
theorem dX1_reckonPick_187 : decode cX1_reckonPick 187 = .ok (.aload_n 0, 1) := by decide +kernel
theorem dX1_reckonPick_188 : decode cX1_reckonPick 188 = .ok (.getfield 47, 3) := by decide +kernel
theorem dX1_reckonPick_191 : decode cX1_reckonPick 191 = .ok (.aload 4, 2) := by decide +kernel
theorem dX1_reckonPick_193 : decode cX1_reckonPick 193 = .ok (.aload 6, 2) := by decide +kernel
theorem dX1_reckonPick_195 : decode cX1_reckonPick 195 = .ok (.aload 5, 2) := by decide +kernel
theorem dX1_reckonPick_197 : decode cX1_reckonPick 197 = .ok (.invokevirtual 179, 3) := by decide +kernel
theorem dX1_reckonPick_200 : decode cX1_reckonPick 200 = .ok (.aload_n 0, 1) := by decide +kernel
theorem dX1_reckonPick_201 : decode cX1_reckonPick 201 = .ok (.iload_n 3, 1) := by decide +kernel
theorem dX1_reckonPick_202 : decode cX1_reckonPick 202 = .ok (.bipush 32, 2) := by decide +kernel
theorem dX1_reckonPick_204 : decode cX1_reckonPick 204 = .ok (.iand, 1) := by decide +kernel
theorem dX1_reckonPick_205 : decode cX1_reckonPick 205 = .ok (.ifCond .eq 7, 3) := by decide +kernel
theorem dX1_reckonPick_208 : decode cX1_reckonPick 208 = .ok (.iconst 1, 1) := by decide +kernel
theorem dX1_reckonPick_209 : decode cX1_reckonPick 209 = .ok (.goto 4, 3) := by decide +kernel
theorem dX1_reckonPick_212 : decode cX1_reckonPick 212 = .ok (.iconst 0, 1) := by decide +kernel
theorem dX1_reckonPick_213 : decode cX1_reckonPick 213 = .ok (.aload_n 0, 1) := by decide +kernel
theorem dX1_reckonPick_214 : decode cX1_reckonPick 214 = .ok (.getfield 47, 3) := by decide +kernel
theorem dX1_reckonPick_217 : decode cX1_reckonPick 217 = .ok (.invokevirtual 171, 3) := by decide +kernel
theorem dX1_reckonPick_220 : decode cX1_reckonPick 220 = .ok (.aload_n 0, 1) := by decide +kernel
theorem dX1_reckonPick_221 : decode cX1_reckonPick 221 = .ok (.aload_n 0, 1) := by decide +kernel
theorem dX1_reckonPick_222 : decode cX1_reckonPick 222 = .ok (.getfield 27, 3) := by decide +kernel
theorem dX1_reckonPick_225 : decode cX1_reckonPick 225 = .ok (.iload_n 2, 1) := by decide +kernel
theorem dX1_reckonPick_226 : decode cX1_reckonPick 226 = .ok (.aaload, 1) := by decide +kernel
theorem dX1_reckonPick_227 : decode cX1_reckonPick 227 = .ok (.iload_n 2, 1) := by decide +kernel
theorem dX1_reckonPick_228 : decode cX1_reckonPick 228 = .ok (.invokevirtual 175, 3) := by decide +kernel
theorem dX1_reckonPick_231 : decode cX1_reckonPick 231 = .ok (.return_, 1) := by decide +kernel
theorem dX1_waysOf_0 : decode cX1_waysOf 0 = .ok (.aload_n 0, 1) := by decide +kernel
theorem dX1_waysOf_1 : decode cX1_waysOf 1 = .ok (.getfield 38, 3) := by decide +kernel
theorem dX1_waysOf_4 : decode cX1_waysOf 4 = .ok (.lconst 0, 1) := by decide +kernel
theorem dX1_waysOf_5 : decode cX1_waysOf 5 = .ok (.invokevirtual 136, 3) := by decide +kernel
theorem dX1_waysOf_8 : decode cX1_waysOf 8 = .ok (.aload_n 0, 1) := by decide +kernel
theorem dX1_waysOf_9 : decode cX1_waysOf 9 = .ok (.getfield 38, 3) := by decide +kernel
theorem dX1_waysOf_12 : decode cX1_waysOf 12 = .ok (.aload_n 0, 1) := by decide +kernel
theorem dX1_waysOf_13 : decode cX1_waysOf 13 = .ok (.aload_n 1, 1) := by decide +kernel
theorem dX1_waysOf_14 : decode cX1_waysOf 14 = .ok (.iload_n 2, 1) := by decide +kernel
theorem dX1_waysOf_15 : decode cX1_waysOf 15 = .ok (.iconst 0, 1) := by decide +kernel
theorem dX1_waysOf_16 : decode cX1_waysOf 16 = .ok (.invokevirtual 146, 3) := by decide +kernel
theorem dX1_waysOf_19 : decode cX1_waysOf 19 = .ok (.lconst 1, 1) := by decide +kernel
theorem dX1_waysOf_20 : decode cX1_waysOf 20 = .ok (.invokevirtual 150, 3) := by decide +kernel
theorem dX1_waysOf_23 : decode cX1_waysOf 23 = .ok (.aload_n 0, 1) := by decide +kernel
theorem dX1_waysOf_24 : decode cX1_waysOf 24 = .ok (.getfield 38, 3) := by decide +kernel
theorem dX1_waysOf_27 : decode cX1_waysOf 27 = .ok (.aload_n 0, 1) := by decide +kernel
theorem dX1_waysOf_28 : decode cX1_waysOf 28 = .ok (.aload_n 1, 1) := by decide +kernel
theorem dX1_waysOf_29 : decode cX1_waysOf 29 = .ok (.iload_n 2, 1) := by decide +kernel
theorem dX1_waysOf_30 : decode cX1_waysOf 30 = .ok (.iconst 1, 1) := by decide +kernel
theorem dX1_waysOf_31 : decode cX1_waysOf 31 = .ok (.invokevirtual 146, 3) := by decide +kernel
theorem dX1_waysOf_34 : decode cX1_waysOf 34 = .ok (.ldc2_w 183, 3) := by decide +kernel
theorem dX1_waysOf_37 : decode cX1_waysOf 37 = .ok (.invokevirtual 150, 3) := by decide +kernel
theorem dX1_waysOf_40 : decode cX1_waysOf 40 = .ok (.aload_n 0, 1) := by decide +kernel
theorem dX1_waysOf_41 : decode cX1_waysOf 41 = .ok (.getfield 41, 3) := by decide +kernel
theorem dX1_waysOf_44 : decode cX1_waysOf 44 = .ok (.lconst 0, 1) := by decide +kernel
theorem dX1_waysOf_45 : decode cX1_waysOf 45 = .ok (.invokevirtual 136, 3) := by decide +kernel
theorem dX1_waysOf_48 : decode cX1_waysOf 48 = .ok (.aload_n 0, 1) := by decide +kernel
theorem dX1_waysOf_49 : decode cX1_waysOf 49 = .ok (.getfield 41, 3) := by decide +kernel
theorem dX1_waysOf_52 : decode cX1_waysOf 52 = .ok (.aload_n 0, 1) := by decide +kernel
theorem dX1_waysOf_53 : decode cX1_waysOf 53 = .ok (.aload_n 1, 1) := by decide +kernel
theorem dX1_waysOf_54 : decode cX1_waysOf 54 = .ok (.iload_n 2, 1) := by decide +kernel
theorem dX1_waysOf_55 : decode cX1_waysOf 55 = .ok (.iconst 0, 1) := by decide +kernel
theorem dX1_waysOf_56 : decode cX1_waysOf 56 = .ok (.invokevirtual 154, 3) := by decide +kernel
theorem dX1_waysOf_59 : decode cX1_waysOf 59 = .ok (.lconst 1, 1) := by decide +kernel
theorem dX1_waysOf_60 : decode cX1_waysOf 60 = .ok (.invokevirtual 150, 3) := by decide +kernel
theorem dX1_waysOf_63 : decode cX1_waysOf 63 = .ok (.aload_n 0, 1) := by decide +kernel
theorem dX1_waysOf_64 : decode cX1_waysOf 64 = .ok (.getfield 41, 3) := by decide +kernel
theorem dX1_waysOf_67 : decode cX1_waysOf 67 = .ok (.aload_n 0, 1) := by decide +kernel
theorem dX1_waysOf_68 : decode cX1_waysOf 68 = .ok (.aload_n 1, 1) := by decide +kernel
theorem dX1_waysOf_69 : decode cX1_waysOf 69 = .ok (.iload_n 2, 1) := by decide +kernel
theorem dX1_waysOf_70 : decode cX1_waysOf 70 = .ok (.iconst 1, 1) := by decide +kernel
theorem dX1_waysOf_71 : decode cX1_waysOf 71 = .ok (.invokevirtual 154, 3) := by decide +kernel
theorem dX1_waysOf_74 : decode cX1_waysOf 74 = .ok (.ldc2_w 183, 3) := by decide +kernel
theorem dX1_waysOf_77 : decode cX1_waysOf 77 = .ok (.invokevirtual 150, 3) := by decide +kernel
theorem dX1_waysOf_80 : decode cX1_waysOf 80 = .ok (.aload_n 0, 1) := by decide +kernel
theorem dX1_waysOf_81 : decode cX1_waysOf 81 = .ok (.getfield 38, 3) := by decide +kernel
theorem dX1_waysOf_84 : decode cX1_waysOf 84 = .ok (.invokevirtual 185, 3) := by decide +kernel
theorem dX1_waysOf_87 : decode cX1_waysOf 87 = .ok (.lstore_n 3, 1) := by decide +kernel
theorem dX1_waysOf_88 : decode cX1_waysOf 88 = .ok (.aload_n 0, 1) := by decide +kernel
theorem dX1_waysOf_89 : decode cX1_waysOf 89 = .ok (.getfield 38, 3) := by decide +kernel
theorem dX1_waysOf_92 : decode cX1_waysOf 92 = .ok (.invokevirtual 188, 3) := by decide +kernel
theorem dX1_waysOf_95 : decode cX1_waysOf 95 = .ok (.lstore 5, 2) := by decide +kernel
theorem dX1_waysOf_97 : decode cX1_waysOf 97 = .ok (.aload_n 0, 1) := by decide +kernel
theorem dX1_waysOf_98 : decode cX1_waysOf 98 = .ok (.getfield 41, 3) := by decide +kernel
theorem dX1_waysOf_101 : decode cX1_waysOf 101 = .ok (.invokevirtual 185, 3) := by decide +kernel
theorem dX1_waysOf_104 : decode cX1_waysOf 104 = .ok (.lstore 7, 2) := by decide +kernel
theorem dX1_waysOf_106 : decode cX1_waysOf 106 = .ok (.aload_n 0, 1) := by decide +kernel
theorem dX1_waysOf_107 : decode cX1_waysOf 107 = .ok (.getfield 41, 3) := by decide +kernel
theorem dX1_waysOf_110 : decode cX1_waysOf 110 = .ok (.invokevirtual 188, 3) := by decide +kernel
theorem dX1_waysOf_113 : decode cX1_waysOf 113 = .ok (.lstore 9, 2) := by decide +kernel
theorem dX1_waysOf_115 : decode cX1_waysOf 115 = .ok (.iconst 0, 1) := by decide +kernel
theorem dX1_waysOf_116 : decode cX1_waysOf 116 = .ok (.istore 11, 2) := by decide +kernel
theorem dX1_waysOf_118 : decode cX1_waysOf 118 = .ok (.iload 11, 2) := by decide +kernel
theorem dX1_waysOf_120 : decode cX1_waysOf 120 = .ok (.lload_n 3, 1) := by decide +kernel
theorem dX1_waysOf_121 : decode cX1_waysOf 121 = .ok (.lconst 0, 1) := by decide +kernel
theorem dX1_waysOf_122 : decode cX1_waysOf 122 = .ok (.lcmp, 1) := by decide +kernel
theorem dX1_waysOf_123 : decode cX1_waysOf 123 = .ok (.ifCond .ge 7, 3) := by decide +kernel
theorem dX1_waysOf_126 : decode cX1_waysOf 126 = .ok (.iconst 1, 1) := by decide +kernel
theorem dX1_waysOf_127 : decode cX1_waysOf 127 = .ok (.goto 4, 3) := by decide +kernel
theorem dX1_waysOf_130 : decode cX1_waysOf 130 = .ok (.iconst 0, 1) := by decide +kernel
theorem dX1_waysOf_131 : decode cX1_waysOf 131 = .ok (.ior, 1) := by decide +kernel
theorem dX1_waysOf_132 : decode cX1_waysOf 132 = .ok (.istore 11, 2) := by decide +kernel
theorem dX1_waysOf_134 : decode cX1_waysOf 134 = .ok (.iload 11, 2) := by decide +kernel
theorem dX1_waysOf_136 : decode cX1_waysOf 136 = .ok (.lload 5, 2) := by decide +kernel
theorem dX1_waysOf_138 : decode cX1_waysOf 138 = .ok (.lconst 0, 1) := by decide +kernel
theorem dX1_waysOf_139 : decode cX1_waysOf 139 = .ok (.lcmp, 1) := by decide +kernel
theorem dX1_waysOf_140 : decode cX1_waysOf 140 = .ok (.ifCond .lt 7, 3) := by decide +kernel
theorem dX1_waysOf_143 : decode cX1_waysOf 143 = .ok (.iconst 2, 1) := by decide +kernel
theorem dX1_waysOf_144 : decode cX1_waysOf 144 = .ok (.goto 4, 3) := by decide +kernel
theorem dX1_waysOf_147 : decode cX1_waysOf 147 = .ok (.iconst 0, 1) := by decide +kernel
theorem dX1_waysOf_148 : decode cX1_waysOf 148 = .ok (.ior, 1) := by decide +kernel
theorem dX1_waysOf_149 : decode cX1_waysOf 149 = .ok (.istore 11, 2) := by decide +kernel
theorem dX1_waysOf_151 : decode cX1_waysOf 151 = .ok (.iload 11, 2) := by decide +kernel
theorem dX1_waysOf_153 : decode cX1_waysOf 153 = .ok (.lload_n 3, 1) := by decide +kernel
theorem dX1_waysOf_154 : decode cX1_waysOf 154 = .ok (.lload 7, 2) := by decide +kernel
theorem dX1_waysOf_156 : decode cX1_waysOf 156 = .ok (.ladd, 1) := by decide +kernel
theorem dX1_waysOf_157 : decode cX1_waysOf 157 = .ok (.lconst 0, 1) := by decide +kernel
theorem dX1_waysOf_158 : decode cX1_waysOf 158 = .ok (.lcmp, 1) := by decide +kernel
theorem dX1_waysOf_159 : decode cX1_waysOf 159 = .ok (.ifCond .ge 7, 3) := by decide +kernel
theorem dX1_waysOf_162 : decode cX1_waysOf 162 = .ok (.iconst 4, 1) := by decide +kernel
theorem dX1_waysOf_163 : decode cX1_waysOf 163 = .ok (.goto 4, 3) := by decide +kernel
theorem dX1_waysOf_166 : decode cX1_waysOf 166 = .ok (.iconst 0, 1) := by decide +kernel
theorem dX1_waysOf_167 : decode cX1_waysOf 167 = .ok (.ior, 1) := by decide +kernel
theorem dX1_waysOf_168 : decode cX1_waysOf 168 = .ok (.istore 11, 2) := by decide +kernel
theorem dX1_waysOf_170 : decode cX1_waysOf 170 = .ok (.iload 11, 2) := by decide +kernel
theorem dX1_waysOf_172 : decode cX1_waysOf 172 = .ok (.lload 5, 2) := by decide +kernel
theorem dX1_waysOf_174 : decode cX1_waysOf 174 = .ok (.lload 9, 2) := by decide +kernel
theorem dX1_waysOf_176 : decode cX1_waysOf 176 = .ok (.ladd, 1) := by decide +kernel
theorem dX1_waysOf_177 : decode cX1_waysOf 177 = .ok (.lconst 0, 1) := by decide +kernel
theorem dX1_waysOf_178 : decode cX1_waysOf 178 = .ok (.lcmp, 1) := by decide +kernel
theorem dX1_waysOf_179 : decode cX1_waysOf 179 = .ok (.ifCond .lt 8, 3) := by decide +kernel
theorem dX1_waysOf_182 : decode cX1_waysOf 182 = .ok (.bipush 8, 2) := by decide +kernel
theorem dX1_waysOf_184 : decode cX1_waysOf 184 = .ok (.goto 4, 3) := by decide +kernel
theorem dX1_waysOf_187 : decode cX1_waysOf 187 = .ok (.iconst 0, 1) := by decide +kernel
theorem dX1_waysOf_188 : decode cX1_waysOf 188 = .ok (.ior, 1) := by decide +kernel
theorem dX1_waysOf_189 : decode cX1_waysOf 189 = .ok (.istore 11, 2) := by decide +kernel
theorem dX1_waysOf_191 : decode cX1_waysOf 191 = .ok (.iload 11, 2) := by decide +kernel
theorem dX1_waysOf_193 : decode cX1_waysOf 193 = .ok (.lload_n 3, 1) := by decide +kernel
theorem dX1_waysOf_194 : decode cX1_waysOf 194 = .ok (.lload 9, 2) := by decide +kernel
theorem dX1_waysOf_196 : decode cX1_waysOf 196 = .ok (.lneg, 1) := by decide +kernel
theorem dX1_waysOf_197 : decode cX1_waysOf 197 = .ok (.invokestatic 191, 3) := by decide +kernel
theorem dX1_waysOf_200 : decode cX1_waysOf 200 = .ok (.lload 5, 2) := by decide +kernel
theorem dX1_waysOf_202 : decode cX1_waysOf 202 = .ok (.ldc2_w 183, 3) := by decide +kernel
theorem dX1_waysOf_205 : decode cX1_waysOf 205 = .ok (.invokestatic 195, 3) := by decide +kernel
theorem dX1_waysOf_208 : decode cX1_waysOf 208 = .ok (.lcmp, 1) := by decide +kernel
theorem dX1_waysOf_209 : decode cX1_waysOf 209 = .ok (.ifCond .gt 8, 3) := by decide +kernel
theorem dX1_waysOf_212 : decode cX1_waysOf 212 = .ok (.bipush 16, 2) := by decide +kernel
theorem dX1_waysOf_214 : decode cX1_waysOf 214 = .ok (.goto 4, 3) := by decide +kernel
theorem dX1_waysOf_217 : decode cX1_waysOf 217 = .ok (.iconst 0, 1) := by decide +kernel
theorem dX1_waysOf_218 : decode cX1_waysOf 218 = .ok (.ior, 1) := by decide +kernel
theorem dX1_waysOf_219 : decode cX1_waysOf 219 = .ok (.istore 11, 2) := by decide +kernel
theorem dX1_waysOf_221 : decode cX1_waysOf 221 = .ok (.iload 11, 2) := by decide +kernel
theorem dX1_waysOf_223 : decode cX1_waysOf 223 = .ok (.lload_n 3, 1) := by decide +kernel
theorem dX1_waysOf_224 : decode cX1_waysOf 224 = .ok (.lconst 0, 1) := by decide +kernel
theorem dX1_waysOf_225 : decode cX1_waysOf 225 = .ok (.invokestatic 191, 3) := by decide +kernel
theorem dX1_waysOf_228 : decode cX1_waysOf 228 = .ok (.lload 5, 2) := by decide +kernel
theorem dX1_waysOf_230 : decode cX1_waysOf 230 = .ok (.lload 7, 2) := by decide +kernel
theorem dX1_waysOf_232 : decode cX1_waysOf 232 = .ok (.lneg, 1) := by decide +kernel
theorem dX1_waysOf_233 : decode cX1_waysOf 233 = .ok (.lconst 1, 1) := by decide +kernel
theorem dX1_waysOf_234 : decode cX1_waysOf 234 = .ok (.lsub, 1) := by decide +kernel
theorem dX1_waysOf_235 : decode cX1_waysOf 235 = .ok (.invokestatic 195, 3) := by decide +kernel
theorem dX1_waysOf_238 : decode cX1_waysOf 238 = .ok (.lcmp, 1) := by decide +kernel
theorem dX1_waysOf_239 : decode cX1_waysOf 239 = .ok (.ifCond .gt 8, 3) := by decide +kernel
theorem dX1_waysOf_242 : decode cX1_waysOf 242 = .ok (.bipush 32, 2) := by decide +kernel
theorem dX1_waysOf_244 : decode cX1_waysOf 244 = .ok (.goto 4, 3) := by decide +kernel
theorem dX1_waysOf_247 : decode cX1_waysOf 247 = .ok (.iconst 0, 1) := by decide +kernel
theorem dX1_waysOf_248 : decode cX1_waysOf 248 = .ok (.ior, 1) := by decide +kernel
theorem dX1_waysOf_249 : decode cX1_waysOf 249 = .ok (.istore 11, 2) := by decide +kernel
theorem dX1_waysOf_251 : decode cX1_waysOf 251 = .ok (.iload 11, 2) := by decide +kernel
theorem dX1_waysOf_253 : decode cX1_waysOf 253 = .ok (.ireturn, 1) := by decide +kernel
theorem dX1_becomeLeap_0 : decode cX1_becomeLeap 0 = .ok (.aload_n 1, 1) := by decide +kernel
theorem dX1_becomeLeap_1 : decode cX1_becomeLeap 1 = .ok (.lconst 0, 1) := by decide +kernel
theorem dX1_becomeLeap_2 : decode cX1_becomeLeap 2 = .ok (.invokevirtual 136, 3) := by decide +kernel
theorem dX1_becomeLeap_5 : decode cX1_becomeLeap 5 = .ok (.aload_n 1, 1) := by decide +kernel
theorem dX1_becomeLeap_6 : decode cX1_becomeLeap 6 = .ok (.aload_n 2, 1) := by decide +kernel
theorem dX1_becomeLeap_7 : decode cX1_becomeLeap 7 = .ok (.lconst 1, 1) := by decide +kernel
theorem dX1_becomeLeap_8 : decode cX1_becomeLeap 8 = .ok (.invokevirtual 150, 3) := by decide +kernel
theorem dX1_becomeLeap_11 : decode cX1_becomeLeap 11 = .ok (.aload_n 1, 1) := by decide +kernel
theorem dX1_becomeLeap_12 : decode cX1_becomeLeap 12 = .ok (.aload_n 3, 1) := by decide +kernel
theorem dX1_becomeLeap_13 : decode cX1_becomeLeap 13 = .ok (.lconst 1, 1) := by decide +kernel
theorem dX1_becomeLeap_14 : decode cX1_becomeLeap 14 = .ok (.invokevirtual 150, 3) := by decide +kernel
theorem dX1_becomeLeap_17 : decode cX1_becomeLeap 17 = .ok (.aload_n 1, 1) := by decide +kernel
theorem dX1_becomeLeap_18 : decode cX1_becomeLeap 18 = .ok (.aload 4, 2) := by decide +kernel
theorem dX1_becomeLeap_20 : decode cX1_becomeLeap 20 = .ok (.ldc2_w 183, 3) := by decide +kernel
theorem dX1_becomeLeap_23 : decode cX1_becomeLeap 23 = .ok (.invokevirtual 150, 3) := by decide +kernel
theorem dX1_becomeLeap_26 : decode cX1_becomeLeap 26 = .ok (.return_, 1) := by decide +kernel
theorem dX1_offer_0 : decode cX1_offer 0 = .ok (.iload_n 1, 1) := by decide +kernel
theorem dX1_offer_1 : decode cX1_offer 1 = .ok (.ifCond .eq 35, 3) := by decide +kernel
theorem dX1_offer_4 : decode cX1_offer 4 = .ok (.aload_n 0, 1) := by decide +kernel
theorem dX1_offer_5 : decode cX1_offer 5 = .ok (.getfield 168, 3) := by decide +kernel
theorem dX1_offer_8 : decode cX1_offer 8 = .ok (.aload_n 0, 1) := by decide +kernel
theorem dX1_offer_9 : decode cX1_offer 9 = .ok (.getfield 50, 3) := by decide +kernel
theorem dX1_offer_12 : decode cX1_offer 12 = .ok (.arraylength, 1) := by decide +kernel
theorem dX1_offer_13 : decode cX1_offer 13 = .ok (.if_icmp .ge 23, 3) := by decide +kernel
theorem dX1_offer_16 : decode cX1_offer 16 = .ok (.aload_n 0, 1) := by decide +kernel
theorem dX1_offer_17 : decode cX1_offer 17 = .ok (.getfield 50, 3) := by decide +kernel
theorem dX1_offer_20 : decode cX1_offer 20 = .ok (.aload_n 0, 1) := by decide +kernel
theorem dX1_offer_21 : decode cX1_offer 21 = .ok (.getfield 168, 3) := by decide +kernel
theorem dX1_offer_24 : decode cX1_offer 24 = .ok (.aload_n 2, 1) := by decide +kernel
theorem dX1_offer_25 : decode cX1_offer 25 = .ok (.aastore, 1) := by decide +kernel
theorem dX1_offer_26 : decode cX1_offer 26 = .ok (.aload_n 0, 1) := by decide +kernel
theorem dX1_offer_27 : decode cX1_offer 27 = .ok (.dup, 1) := by decide +kernel
theorem dX1_offer_28 : decode cX1_offer 28 = .ok (.getfield 168, 3) := by decide +kernel
theorem dX1_offer_31 : decode cX1_offer 31 = .ok (.iconst 1, 1) := by decide +kernel
theorem dX1_offer_32 : decode cX1_offer 32 = .ok (.iadd, 1) := by decide +kernel
theorem dX1_offer_33 : decode cX1_offer 33 = .ok (.putfield 168, 3) := by decide +kernel
theorem dX1_offer_36 : decode cX1_offer 36 = .ok (.return_, 1) := by decide +kernel
theorem dX1_join_0 : decode cX1_join 0 = .ok (.aload_n 1, 1) := by decide +kernel
theorem dX1_join_1 : decode cX1_join 1 = .ok (.lconst 0, 1) := by decide +kernel
theorem dX1_join_2 : decode cX1_join 2 = .ok (.invokevirtual 136, 3) := by decide +kernel
theorem dX1_join_5 : decode cX1_join 5 = .ok (.aload_n 0, 1) := by decide +kernel
theorem dX1_join_6 : decode cX1_join 6 = .ok (.getfield 168, 3) := by decide +kernel
theorem dX1_join_9 : decode cX1_join 9 = .ok (.ifCond .ne 4, 3) := by decide +kernel
theorem dX1_join_12 : decode cX1_join 12 = .ok (.return_, 1) := by decide +kernel
theorem dX1_join_13 : decode cX1_join 13 = .ok (.aload_n 0, 1) := by decide +kernel
theorem dX1_join_14 : decode cX1_join 14 = .ok (.getfield 168, 3) := by decide +kernel
theorem dX1_join_17 : decode cX1_join 17 = .ok (.iconst 1, 1) := by decide +kernel
theorem dX1_join_18 : decode cX1_join 18 = .ok (.if_icmp .ne 15, 3) := by decide +kernel
theorem dX1_join_21 : decode cX1_join 21 = .ok (.aload_n 1, 1) := by decide +kernel
theorem dX1_join_22 : decode cX1_join 22 = .ok (.aload_n 0, 1) := by decide +kernel
theorem dX1_join_23 : decode cX1_join 23 = .ok (.getfield 50, 3) := by decide +kernel
theorem dX1_join_26 : decode cX1_join 26 = .ok (.iconst 0, 1) := by decide +kernel
theorem dX1_join_27 : decode cX1_join 27 = .ok (.aaload, 1) := by decide +kernel
theorem dX1_join_28 : decode cX1_join 28 = .ok (.lconst 1, 1) := by decide +kernel
theorem dX1_join_29 : decode cX1_join 29 = .ok (.invokevirtual 150, 3) := by decide +kernel
theorem dX1_join_32 : decode cX1_join 32 = .ok (.return_, 1) := by decide +kernel
theorem dX1_join_33 : decode cX1_join 33 = .ok (.aload_n 0, 1) := by decide +kernel
theorem dX1_join_34 : decode cX1_join 34 = .ok (.getfield 50, 3) := by decide +kernel
theorem dX1_join_37 : decode cX1_join 37 = .ok (.iconst 0, 1) := by decide +kernel
theorem dX1_join_38 : decode cX1_join 38 = .ok (.aaload, 1) := by decide +kernel
theorem dX1_join_39 : decode cX1_join 39 = .ok (.invokevirtual 185, 3) := by decide +kernel
theorem dX1_join_42 : decode cX1_join 42 = .ok (.lstore_n 3, 1) := by decide +kernel
theorem dX1_join_43 : decode cX1_join 43 = .ok (.aload_n 0, 1) := by decide +kernel
theorem dX1_join_44 : decode cX1_join 44 = .ok (.getfield 50, 3) := by decide +kernel
theorem dX1_join_47 : decode cX1_join 47 = .ok (.iconst 0, 1) := by decide +kernel
theorem dX1_join_48 : decode cX1_join 48 = .ok (.aaload, 1) := by decide +kernel
theorem dX1_join_49 : decode cX1_join 49 = .ok (.invokevirtual 188, 3) := by decide +kernel
theorem dX1_join_52 : decode cX1_join 52 = .ok (.lstore 5, 2) := by decide +kernel
theorem dX1_join_54 : decode cX1_join 54 = .ok (.iconst 1, 1) := by decide +kernel
theorem dX1_join_55 : decode cX1_join 55 = .ok (.istore 7, 2) := by decide +kernel
theorem dX1_join_57 : decode cX1_join 57 = .ok (.iload 7, 2) := by decide +kernel
theorem dX1_join_59 : decode cX1_join 59 = .ok (.aload_n 0, 1) := by decide +kernel
theorem dX1_join_60 : decode cX1_join 60 = .ok (.getfield 168, 3) := by decide +kernel
theorem dX1_join_63 : decode cX1_join 63 = .ok (.if_icmp .ge 41, 3) := by decide +kernel
theorem dX1_join_66 : decode cX1_join 66 = .ok (.lload_n 3, 1) := by decide +kernel
theorem dX1_join_67 : decode cX1_join 67 = .ok (.aload_n 0, 1) := by decide +kernel
theorem dX1_join_68 : decode cX1_join 68 = .ok (.getfield 50, 3) := by decide +kernel
theorem dX1_join_71 : decode cX1_join 71 = .ok (.iload 7, 2) := by decide +kernel
theorem dX1_join_73 : decode cX1_join 73 = .ok (.aaload, 1) := by decide +kernel
theorem dX1_join_74 : decode cX1_join 74 = .ok (.invokevirtual 185, 3) := by decide +kernel
theorem dX1_join_77 : decode cX1_join 77 = .ok (.invokestatic 195, 3) := by decide +kernel
theorem dX1_join_80 : decode cX1_join 80 = .ok (.lstore_n 3, 1) := by decide +kernel
theorem dX1_join_81 : decode cX1_join 81 = .ok (.lload 5, 2) := by decide +kernel
theorem dX1_join_83 : decode cX1_join 83 = .ok (.aload_n 0, 1) := by decide +kernel
theorem dX1_join_84 : decode cX1_join 84 = .ok (.getfield 50, 3) := by decide +kernel
theorem dX1_join_87 : decode cX1_join 87 = .ok (.iload 7, 2) := by decide +kernel
theorem dX1_join_89 : decode cX1_join 89 = .ok (.aaload, 1) := by decide +kernel
theorem dX1_join_90 : decode cX1_join 90 = .ok (.invokevirtual 188, 3) := by decide +kernel
theorem dX1_join_93 : decode cX1_join 93 = .ok (.invokestatic 191, 3) := by decide +kernel
theorem dX1_join_96 : decode cX1_join 96 = .ok (.lstore 5, 2) := by decide +kernel
theorem dX1_join_98 : decode cX1_join 98 = .ok (.iinc 7 1, 3) := by decide +kernel
theorem dX1_join_101 : decode cX1_join 101 = .ok (.goto (-44), 3) := by decide +kernel
theorem dX1_join_104 : decode cX1_join 104 = .ok (.aload_n 1, 1) := by decide +kernel
theorem dX1_join_105 : decode cX1_join 105 = .ok (.lload_n 3, 1) := by decide +kernel
theorem dX1_join_106 : decode cX1_join 106 = .ok (.lload 5, 2) := by decide +kernel
theorem dX1_join_108 : decode cX1_join 108 = .ok (.ladd, 1) := by decide +kernel
theorem dX1_join_109 : decode cX1_join 109 = .ok (.iconst 1, 1) := by decide +kernel
theorem dX1_join_110 : decode cX1_join 110 = .ok (.lshr, 1) := by decide +kernel
theorem dX1_join_111 : decode cX1_join 111 = .ok (.putfield 96, 3) := by decide +kernel
theorem dX1_join_114 : decode cX1_join 114 = .ok (.aload_n 0, 1) := by decide +kernel
theorem dX1_join_115 : decode cX1_join 115 = .ok (.aload_n 1, 1) := by decide +kernel
theorem dX1_join_116 : decode cX1_join 116 = .ok (.lload 5, 2) := by decide +kernel
theorem dX1_join_118 : decode cX1_join 118 = .ok (.aload_n 1, 1) := by decide +kernel
theorem dX1_join_119 : decode cX1_join 119 = .ok (.getfield 96, 3) := by decide +kernel
theorem dX1_join_122 : decode cX1_join 122 = .ok (.lsub, 1) := by decide +kernel
theorem dX1_join_123 : decode cX1_join 123 = .ok (.iload_n 2, 1) := by decide +kernel
theorem dX1_join_124 : decode cX1_join 124 = .ok (.iconst 2, 1) := by decide +kernel
theorem dX1_join_125 : decode cX1_join 125 = .ok (.invokevirtual 92, 3) := by decide +kernel
theorem dX1_join_128 : decode cX1_join 128 = .ok (.return_, 1) := by decide +kernel
theorem dX2_init_0 : decode cX2_init 0 = .ok (.aload_n 0, 1) := by decide +kernel
theorem dX2_init_1 : decode cX2_init 1 = .ok (.invokespecial 3, 3) := by decide +kernel
theorem dX2_init_4 : decode cX2_init 4 = .ok (.aload_n 0, 1) := by decide +kernel
theorem dX2_init_5 : decode cX2_init 5 = .ok (.new 9, 3) := by decide +kernel
theorem dX2_init_8 : decode cX2_init 8 = .ok (.dup, 1) := by decide +kernel
theorem dX2_init_9 : decode cX2_init 9 = .ok (.invokespecial 11, 3) := by decide +kernel
theorem dX2_init_12 : decode cX2_init 12 = .ok (.putfield 12, 3) := by decide +kernel
theorem dX2_init_15 : decode cX2_init 15 = .ok (.aload_n 0, 1) := by decide +kernel
theorem dX2_init_16 : decode cX2_init 16 = .ok (.new 18, 3) := by decide +kernel
theorem dX2_init_19 : decode cX2_init 19 = .ok (.dup, 1) := by decide +kernel
theorem dX2_init_20 : decode cX2_init 20 = .ok (.invokespecial 20, 3) := by decide +kernel
theorem dX2_init_23 : decode cX2_init 23 = .ok (.putfield 21, 3) := by decide +kernel
theorem dX2_init_26 : decode cX2_init 26 = .ok (.aload_n 0, 1) := by decide +kernel
theorem dX2_init_27 : decode cX2_init 27 = .ok (.sipush 243, 3) := by decide +kernel
theorem dX2_init_30 : decode cX2_init 30 = .ok (.newarray .int, 2) := by decide +kernel
theorem dX2_init_32 : decode cX2_init 32 = .ok (.putfield 25, 3) := by decide +kernel
theorem dX2_init_35 : decode cX2_init 35 = .ok (.aload_n 0, 1) := by decide +kernel
theorem dX2_init_36 : decode cX2_init 36 = .ok (.sipush 243, 3) := by decide +kernel
theorem dX2_init_39 : decode cX2_init 39 = .ok (.newarray .int, 2) := by decide +kernel
theorem dX2_init_41 : decode cX2_init 41 = .ok (.putfield 29, 3) := by decide +kernel
theorem dX2_init_44 : decode cX2_init 44 = .ok (.aload_n 0, 1) := by decide +kernel
theorem dX2_init_45 : decode cX2_init 45 = .ok (.bipush 81, 2) := by decide +kernel
theorem dX2_init_47 : decode cX2_init 47 = .ok (.newarray .long, 2) := by decide +kernel
theorem dX2_init_49 : decode cX2_init 49 = .ok (.putfield 32, 3) := by decide +kernel
theorem dX2_init_52 : decode cX2_init 52 = .ok (.return_, 1) := by decide +kernel
theorem dX2_begin_0 : decode cX2_begin 0 = .ok (.aload_n 0, 1) := by decide +kernel
theorem dX2_begin_1 : decode cX2_begin 1 = .ok (.getfield 21, 3) := by decide +kernel
theorem dX2_begin_4 : decode cX2_begin 4 = .ok (.aload_n 1, 1) := by decide +kernel
theorem dX2_begin_5 : decode cX2_begin 5 = .ok (.invokevirtual 36, 3) := by decide +kernel
theorem dX2_begin_8 : decode cX2_begin 8 = .ok (.aload_n 0, 1) := by decide +kernel
theorem dX2_begin_9 : decode cX2_begin 9 = .ok (.iload_n 2, 1) := by decide +kernel
theorem dX2_begin_10 : decode cX2_begin 10 = .ok (.putfield 40, 3) := by decide +kernel
theorem dX2_begin_13 : decode cX2_begin 13 = .ok (.aload_n 0, 1) := by decide +kernel
theorem dX2_begin_14 : decode cX2_begin 14 = .ok (.iconst 0, 1) := by decide +kernel
theorem dX2_begin_15 : decode cX2_begin 15 = .ok (.putfield 44, 3) := by decide +kernel
theorem dX2_begin_18 : decode cX2_begin 18 = .ok (.aload_n 0, 1) := by decide +kernel
theorem dX2_begin_19 : decode cX2_begin 19 = .ok (.iconst 0, 1) := by decide +kernel
theorem dX2_begin_20 : decode cX2_begin 20 = .ok (.putfield 47, 3) := by decide +kernel
theorem dX2_begin_23 : decode cX2_begin 23 = .ok (.iconst 0, 1) := by decide +kernel
theorem dX2_begin_24 : decode cX2_begin 24 = .ok (.istore_n 3, 1) := by decide +kernel
theorem dX2_begin_25 : decode cX2_begin 25 = .ok (.iload_n 3, 1) := by decide +kernel
theorem dX2_begin_26 : decode cX2_begin 26 = .ok (.aload_n 0, 1) := by decide +kernel
theorem dX2_begin_27 : decode cX2_begin 27 = .ok (.getfield 21, 3) := by decide +kernel
theorem dX2_begin_30 : decode cX2_begin 30 = .ok (.getfield 50, 3) := by decide +kernel
theorem dX2_begin_33 : decode cX2_begin 33 = .ok (.if_icmp .ge 55, 3) := by decide +kernel
theorem dX2_begin_36 : decode cX2_begin 36 = .ok (.aload_n 0, 1) := by decide +kernel
theorem dX2_begin_37 : decode cX2_begin 37 = .ok (.getfield 25, 3) := by decide +kernel
theorem dX2_begin_40 : decode cX2_begin 40 = .ok (.iload_n 3, 1) := by decide +kernel
theorem dX2_begin_41 : decode cX2_begin 41 = .ok (.aload_n 0, 1) := by decide +kernel
theorem dX2_begin_42 : decode cX2_begin 42 = .ok (.getfield 21, 3) := by decide +kernel
theorem dX2_begin_45 : decode cX2_begin 45 = .ok (.getfield 53, 3) := by decide +kernel
theorem dX2_begin_48 : decode cX2_begin 48 = .ok (.aload_n 0, 1) := by decide +kernel
theorem dX2_begin_49 : decode cX2_begin 49 = .ok (.getfield 21, 3) := by decide +kernel
theorem dX2_begin_52 : decode cX2_begin 52 = .ok (.getfield 54, 3) := by decide +kernel
theorem dX2_begin_55 : decode cX2_begin 55 = .ok (.iload_n 3, 1) := by decide +kernel
theorem dX2_begin_56 : decode cX2_begin 56 = .ok (.iaload, 1) := by decide +kernel
theorem dX2_begin_57 : decode cX2_begin 57 = .ok (.iaload, 1) := by decide +kernel
theorem dX2_begin_58 : decode cX2_begin 58 = .ok (.iastore, 1) := by decide +kernel
theorem dX2_begin_59 : decode cX2_begin 59 = .ok (.aload_n 0, 1) := by decide +kernel
theorem dX2_begin_60 : decode cX2_begin 60 = .ok (.getfield 29, 3) := by decide +kernel
theorem dX2_begin_63 : decode cX2_begin 63 = .ok (.iload_n 3, 1) := by decide +kernel
theorem dX2_begin_64 : decode cX2_begin 64 = .ok (.aload_n 0, 1) := by decide +kernel
theorem dX2_begin_65 : decode cX2_begin 65 = .ok (.getfield 21, 3) := by decide +kernel
theorem dX2_begin_68 : decode cX2_begin 68 = .ok (.getfield 57, 3) := by decide +kernel
theorem dX2_begin_71 : decode cX2_begin 71 = .ok (.aload_n 0, 1) := by decide +kernel
theorem dX2_begin_72 : decode cX2_begin 72 = .ok (.getfield 21, 3) := by decide +kernel
theorem dX2_begin_75 : decode cX2_begin 75 = .ok (.getfield 54, 3) := by decide +kernel
theorem dX2_begin_78 : decode cX2_begin 78 = .ok (.iload_n 3, 1) := by decide +kernel
theorem dX2_begin_79 : decode cX2_begin 79 = .ok (.iaload, 1) := by decide +kernel
theorem dX2_begin_80 : decode cX2_begin 80 = .ok (.iaload, 1) := by decide +kernel
theorem dX2_begin_81 : decode cX2_begin 81 = .ok (.iastore, 1) := by decide +kernel
theorem dX2_begin_82 : decode cX2_begin 82 = .ok (.iinc 3 1, 3) := by decide +kernel
theorem dX2_begin_85 : decode cX2_begin 85 = .ok (.goto (-60), 3) := by decide +kernel
theorem dX2_begin_88 : decode cX2_begin 88 = .ok (.aload_n 0, 1) := by decide +kernel
theorem dX2_begin_89 : decode cX2_begin 89 = .ok (.invokevirtual 58, 3) := by decide +kernel
theorem dX2_begin_92 : decode cX2_begin 92 = .ok (.return_, 1) := by decide +kernel
theorem dX2_living_0 : decode cX2_living 0 = .ok (.iconst 1, 1) := by decide +kernel
theorem dX2_living_1 : decode cX2_living 1 = .ok (.aload_n 0, 1) := by decide +kernel
theorem dX2_living_2 : decode cX2_living 2 = .ok (.getfield 47, 3) := by decide +kernel
theorem dX2_living_5 : decode cX2_living 5 = .ok (.iadd, 1) := by decide +kernel
theorem dX2_living_6 : decode cX2_living 6 = .ok (.ireturn, 1) := by decide +kernel
theorem dX2_greatestBound_0 : decode cX2_greatestBound 0 = .ok (.aload_n 0, 1) := by decide +kernel
theorem dX2_greatestBound_1 : decode cX2_greatestBound 1 = .ok (.getfield 32, 3) := by decide +kernel
theorem dX2_greatestBound_4 : decode cX2_greatestBound 4 = .ok (.aload_n 0, 1) := by decide +kernel
theorem dX2_greatestBound_5 : decode cX2_greatestBound 5 = .ok (.invokevirtual 61, 3) := by decide +kernel
theorem dX2_greatestBound_8 : decode cX2_greatestBound 8 = .ok (.laload, 1) := by decide +kernel
theorem dX2_greatestBound_9 : decode cX2_greatestBound 9 = .ok (.lreturn, 1) := by decide +kernel
theorem dX2_splitWorst_0 : decode cX2_splitWorst 0 = .ok (.aload_n 0, 1) := by decide +kernel
theorem dX2_splitWorst_1 : decode cX2_splitWorst 1 = .ok (.invokevirtual 61, 3) := by decide +kernel
theorem dX2_splitWorst_4 : decode cX2_splitWorst 4 = .ok (.istore_n 1, 1) := by decide +kernel
theorem dX2_splitWorst_5 : decode cX2_splitWorst 5 = .ok (.aload_n 0, 1) := by decide +kernel
theorem dX2_splitWorst_6 : decode cX2_splitWorst 6 = .ok (.iload_n 1, 1) := by decide +kernel
theorem dX2_splitWorst_7 : decode cX2_splitWorst 7 = .ok (.invokevirtual 65, 3) := by decide +kernel
theorem dX2_splitWorst_10 : decode cX2_splitWorst 10 = .ok (.istore_n 2, 1) := by decide +kernel
theorem dX2_splitWorst_11 : decode cX2_splitWorst 11 = .ok (.iload_n 2, 1) := by decide +kernel
theorem dX2_splitWorst_12 : decode cX2_splitWorst 12 = .ok (.iconst (-1), 1) := by decide +kernel
theorem dX2_splitWorst_13 : decode cX2_splitWorst 13 = .ok (.if_icmp .eq 14, 3) := by decide +kernel
theorem dX2_splitWorst_16 : decode cX2_splitWorst 16 = .ok (.aload_n 0, 1) := by decide +kernel
theorem dX2_splitWorst_17 : decode cX2_splitWorst 17 = .ok (.getfield 44, 3) := by decide +kernel
theorem dX2_splitWorst_20 : decode cX2_splitWorst 20 = .ok (.iconst 2, 1) := by decide +kernel
theorem dX2_splitWorst_21 : decode cX2_splitWorst 21 = .ok (.iadd, 1) := by decide +kernel
theorem dX2_splitWorst_22 : decode cX2_splitWorst 22 = .ok (.bipush 81, 2) := by decide +kernel
theorem dX2_splitWorst_24 : decode cX2_splitWorst 24 = .ok (.if_icmp .le 5, 3) := by decide +kernel
theorem dX2_splitWorst_27 : decode cX2_splitWorst 27 = .ok (.iconst 0, 1) := by decide +kernel
theorem dX2_splitWorst_28 : decode cX2_splitWorst 28 = .ok (.ireturn, 1) := by decide +kernel
theorem dX2_splitWorst_29 : decode cX2_splitWorst 29 = .ok (.iload_n 1, 1) := by decide +kernel
theorem dX2_splitWorst_30 : decode cX2_splitWorst 30 = .ok (.iconst 3, 1) := by decide +kernel
theorem dX2_splitWorst_31 : decode cX2_splitWorst 31 = .ok (.imul, 1) := by decide +kernel
theorem dX2_splitWorst_32 : decode cX2_splitWorst 32 = .ok (.iload_n 2, 1) := by decide +kernel
theorem dX2_splitWorst_33 : decode cX2_splitWorst 33 = .ok (.iadd, 1) := by decide +kernel
theorem dX2_splitWorst_34 : decode cX2_splitWorst 34 = .ok (.istore_n 3, 1) := by decide +kernel
theorem dX2_splitWorst_35 : decode cX2_splitWorst 35 = .ok (.aload_n 0, 1) := by decide +kernel
theorem dX2_splitWorst_36 : decode cX2_splitWorst 36 = .ok (.getfield 25, 3) := by decide +kernel
theorem dX2_splitWorst_39 : decode cX2_splitWorst 39 = .ok (.iload_n 3, 1) := by decide +kernel
theorem dX2_splitWorst_40 : decode cX2_splitWorst 40 = .ok (.iaload, 1) := by decide +kernel
theorem dX2_splitWorst_41 : decode cX2_splitWorst 41 = .ok (.aload_n 0, 1) := by decide +kernel
theorem dX2_splitWorst_42 : decode cX2_splitWorst 42 = .ok (.getfield 29, 3) := by decide +kernel
theorem dX2_splitWorst_45 : decode cX2_splitWorst 45 = .ok (.iload_n 3, 1) := by decide +kernel
theorem dX2_splitWorst_46 : decode cX2_splitWorst 46 = .ok (.iaload, 1) := by decide +kernel
theorem dX2_splitWorst_47 : decode cX2_splitWorst 47 = .ok (.aload_n 0, 1) := by decide +kernel
theorem dX2_splitWorst_48 : decode cX2_splitWorst 48 = .ok (.getfield 25, 3) := by decide +kernel
theorem dX2_splitWorst_51 : decode cX2_splitWorst 51 = .ok (.iload_n 3, 1) := by decide +kernel
theorem dX2_splitWorst_52 : decode cX2_splitWorst 52 = .ok (.iaload, 1) := by decide +kernel
theorem dX2_splitWorst_53 : decode cX2_splitWorst 53 = .ok (.isub, 1) := by decide +kernel
theorem dX2_splitWorst_54 : decode cX2_splitWorst 54 = .ok (.iconst 2, 1) := by decide +kernel
theorem dX2_splitWorst_55 : decode cX2_splitWorst 55 = .ok (.idiv, 1) := by decide +kernel
theorem dX2_splitWorst_56 : decode cX2_splitWorst 56 = .ok (.iadd, 1) := by decide +kernel
theorem dX2_splitWorst_57 : decode cX2_splitWorst 57 = .ok (.istore 4, 2) := by decide +kernel
theorem dX2_splitWorst_59 : decode cX2_splitWorst 59 = .ok (.aload_n 0, 1) := by decide +kernel
theorem dX2_splitWorst_60 : decode cX2_splitWorst 60 = .ok (.iload_n 1, 1) := by decide +kernel
theorem dX2_splitWorst_61 : decode cX2_splitWorst 61 = .ok (.invokevirtual 69, 3) := by decide +kernel
theorem dX2_splitWorst_64 : decode cX2_splitWorst 64 = .ok (.aload_n 0, 1) := by decide +kernel
theorem dX2_splitWorst_65 : decode cX2_splitWorst 65 = .ok (.getfield 29, 3) := by decide +kernel
theorem dX2_splitWorst_68 : decode cX2_splitWorst 68 = .ok (.aload_n 0, 1) := by decide +kernel
theorem dX2_splitWorst_69 : decode cX2_splitWorst 69 = .ok (.getfield 44, 3) := by decide +kernel
theorem dX2_splitWorst_72 : decode cX2_splitWorst 72 = .ok (.iconst 3, 1) := by decide +kernel
theorem dX2_splitWorst_73 : decode cX2_splitWorst 73 = .ok (.imul, 1) := by decide +kernel
theorem dX2_splitWorst_74 : decode cX2_splitWorst 74 = .ok (.iload_n 2, 1) := by decide +kernel
theorem dX2_splitWorst_75 : decode cX2_splitWorst 75 = .ok (.iadd, 1) := by decide +kernel
theorem dX2_splitWorst_76 : decode cX2_splitWorst 76 = .ok (.iload 4, 2) := by decide +kernel
theorem dX2_splitWorst_78 : decode cX2_splitWorst 78 = .ok (.iastore, 1) := by decide +kernel
theorem dX2_splitWorst_79 : decode cX2_splitWorst 79 = .ok (.aload_n 0, 1) := by decide +kernel
theorem dX2_splitWorst_80 : decode cX2_splitWorst 80 = .ok (.invokevirtual 58, 3) := by decide +kernel
theorem dX2_splitWorst_83 : decode cX2_splitWorst 83 = .ok (.aload_n 0, 1) := by decide +kernel
theorem dX2_splitWorst_84 : decode cX2_splitWorst 84 = .ok (.iload_n 1, 1) := by decide +kernel
theorem dX2_splitWorst_85 : decode cX2_splitWorst 85 = .ok (.invokevirtual 69, 3) := by decide +kernel
theorem dX2_splitWorst_88 : decode cX2_splitWorst 88 = .ok (.aload_n 0, 1) := by decide +kernel
theorem dX2_splitWorst_89 : decode cX2_splitWorst 89 = .ok (.getfield 25, 3) := by decide +kernel
theorem dX2_splitWorst_92 : decode cX2_splitWorst 92 = .ok (.aload_n 0, 1) := by decide +kernel
theorem dX2_splitWorst_93 : decode cX2_splitWorst 93 = .ok (.getfield 44, 3) := by decide +kernel
theorem dX2_splitWorst_96 : decode cX2_splitWorst 96 = .ok (.iconst 3, 1) := by decide +kernel
theorem dX2_splitWorst_97 : decode cX2_splitWorst 97 = .ok (.imul, 1) := by decide +kernel
theorem dX2_splitWorst_98 : decode cX2_splitWorst 98 = .ok (.iload_n 2, 1) := by decide +kernel
theorem dX2_splitWorst_99 : decode cX2_splitWorst 99 = .ok (.iadd, 1) := by decide +kernel
theorem dX2_splitWorst_100 : decode cX2_splitWorst 100 = .ok (.iload 4, 2) := by decide +kernel
theorem dX2_splitWorst_102 : decode cX2_splitWorst 102 = .ok (.iastore, 1) := by decide +kernel
theorem dX2_splitWorst_103 : decode cX2_splitWorst 103 = .ok (.aload_n 0, 1) := by decide +kernel
theorem dX2_splitWorst_104 : decode cX2_splitWorst 104 = .ok (.invokevirtual 58, 3) := by decide +kernel
theorem dX2_splitWorst_107 : decode cX2_splitWorst 107 = .ok (.aload_n 0, 1) := by decide +kernel
theorem dX2_splitWorst_108 : decode cX2_splitWorst 108 = .ok (.getfield 32, 3) := by decide +kernel
theorem dX2_splitWorst_111 : decode cX2_splitWorst 111 = .ok (.iload_n 1, 1) := by decide +kernel
theorem dX2_splitWorst_112 : decode cX2_splitWorst 112 = .ok (.ldc2_w 73, 3) := by decide +kernel
theorem dX2_splitWorst_115 : decode cX2_splitWorst 115 = .ok (.lastore, 1) := by decide +kernel
theorem dX2_splitWorst_116 : decode cX2_splitWorst 116 = .ok (.aload_n 0, 1) := by decide +kernel
theorem dX2_splitWorst_117 : decode cX2_splitWorst 117 = .ok (.dup, 1) := by decide +kernel
theorem dX2_splitWorst_118 : decode cX2_splitWorst 118 = .ok (.getfield 47, 3) := by decide +kernel
theorem dX2_splitWorst_121 : decode cX2_splitWorst 121 = .ok (.iconst 1, 1) := by decide +kernel
theorem dX2_splitWorst_122 : decode cX2_splitWorst 122 = .ok (.iadd, 1) := by decide +kernel
theorem dX2_splitWorst_123 : decode cX2_splitWorst 123 = .ok (.putfield 47, 3) := by decide +kernel
theorem dX2_splitWorst_126 : decode cX2_splitWorst 126 = .ok (.iconst 1, 1) := by decide +kernel
theorem dX2_splitWorst_127 : decode cX2_splitWorst 127 = .ok (.ireturn, 1) := by decide +kernel
theorem dX2_copyToNext_0 : decode cX2_copyToNext 0 = .ok (.aload_n 0, 1) := by decide +kernel
theorem dX2_copyToNext_1 : decode cX2_copyToNext 1 = .ok (.getfield 25, 3) := by decide +kernel
theorem dX2_copyToNext_4 : decode cX2_copyToNext 4 = .ok (.iload_n 1, 1) := by decide +kernel
theorem dX2_copyToNext_5 : decode cX2_copyToNext 5 = .ok (.iconst 3, 1) := by decide +kernel
theorem dX2_copyToNext_6 : decode cX2_copyToNext 6 = .ok (.imul, 1) := by decide +kernel
theorem dX2_copyToNext_7 : decode cX2_copyToNext 7 = .ok (.aload_n 0, 1) := by decide +kernel
theorem dX2_copyToNext_8 : decode cX2_copyToNext 8 = .ok (.getfield 25, 3) := by decide +kernel
theorem dX2_copyToNext_11 : decode cX2_copyToNext 11 = .ok (.aload_n 0, 1) := by decide +kernel
theorem dX2_copyToNext_12 : decode cX2_copyToNext 12 = .ok (.getfield 44, 3) := by decide +kernel
theorem dX2_copyToNext_15 : decode cX2_copyToNext 15 = .ok (.iconst 3, 1) := by decide +kernel
theorem dX2_copyToNext_16 : decode cX2_copyToNext 16 = .ok (.imul, 1) := by decide +kernel
theorem dX2_copyToNext_17 : decode cX2_copyToNext 17 = .ok (.iconst 3, 1) := by decide +kernel
theorem dX2_copyToNext_18 : decode cX2_copyToNext 18 = .ok (.invokestatic 75, 3) := by decide +kernel
theorem dX2_copyToNext_21 : decode cX2_copyToNext 21 = .ok (.aload_n 0, 1) := by decide +kernel
theorem dX2_copyToNext_22 : decode cX2_copyToNext 22 = .ok (.getfield 29, 3) := by decide +kernel
theorem dX2_copyToNext_25 : decode cX2_copyToNext 25 = .ok (.iload_n 1, 1) := by decide +kernel
theorem dX2_copyToNext_26 : decode cX2_copyToNext 26 = .ok (.iconst 3, 1) := by decide +kernel
theorem dX2_copyToNext_27 : decode cX2_copyToNext 27 = .ok (.imul, 1) := by decide +kernel
theorem dX2_copyToNext_28 : decode cX2_copyToNext 28 = .ok (.aload_n 0, 1) := by decide +kernel
theorem dX2_copyToNext_29 : decode cX2_copyToNext 29 = .ok (.getfield 29, 3) := by decide +kernel
theorem dX2_copyToNext_32 : decode cX2_copyToNext 32 = .ok (.aload_n 0, 1) := by decide +kernel
theorem dX2_copyToNext_33 : decode cX2_copyToNext 33 = .ok (.getfield 44, 3) := by decide +kernel
theorem dX2_copyToNext_36 : decode cX2_copyToNext 36 = .ok (.iconst 3, 1) := by decide +kernel
theorem dX2_copyToNext_37 : decode cX2_copyToNext 37 = .ok (.imul, 1) := by decide +kernel
theorem dX2_copyToNext_38 : decode cX2_copyToNext 38 = .ok (.iconst 3, 1) := by decide +kernel
theorem dX2_copyToNext_39 : decode cX2_copyToNext 39 = .ok (.invokestatic 75, 3) := by decide +kernel
theorem dX2_copyToNext_42 : decode cX2_copyToNext 42 = .ok (.return_, 1) := by decide +kernel
theorem dX2_keepMade_0 : decode cX2_keepMade 0 = .ok (.iconst 0, 1) := by decide +kernel
theorem dX2_keepMade_1 : decode cX2_keepMade 1 = .ok (.istore_n 1, 1) := by decide +kernel
theorem dX2_keepMade_2 : decode cX2_keepMade 2 = .ok (.iload_n 1, 1) := by decide +kernel
theorem dX2_keepMade_3 : decode cX2_keepMade 3 = .ok (.aload_n 0, 1) := by decide +kernel
theorem dX2_keepMade_4 : decode cX2_keepMade 4 = .ok (.getfield 21, 3) := by decide +kernel
theorem dX2_keepMade_7 : decode cX2_keepMade 7 = .ok (.getfield 50, 3) := by decide +kernel
theorem dX2_keepMade_10 : decode cX2_keepMade 10 = .ok (.if_icmp .ge 63, 3) := by decide +kernel
theorem dX2_keepMade_13 : decode cX2_keepMade 13 = .ok (.aload_n 0, 1) := by decide +kernel
theorem dX2_keepMade_14 : decode cX2_keepMade 14 = .ok (.getfield 21, 3) := by decide +kernel
theorem dX2_keepMade_17 : decode cX2_keepMade 17 = .ok (.getfield 54, 3) := by decide +kernel
theorem dX2_keepMade_20 : decode cX2_keepMade 20 = .ok (.iload_n 1, 1) := by decide +kernel
theorem dX2_keepMade_21 : decode cX2_keepMade 21 = .ok (.iaload, 1) := by decide +kernel
theorem dX2_keepMade_22 : decode cX2_keepMade 22 = .ok (.istore_n 2, 1) := by decide +kernel
theorem dX2_keepMade_23 : decode cX2_keepMade 23 = .ok (.aload_n 0, 1) := by decide +kernel
theorem dX2_keepMade_24 : decode cX2_keepMade 24 = .ok (.getfield 21, 3) := by decide +kernel
theorem dX2_keepMade_27 : decode cX2_keepMade 27 = .ok (.getfield 53, 3) := by decide +kernel
theorem dX2_keepMade_30 : decode cX2_keepMade 30 = .ok (.iload_n 2, 1) := by decide +kernel
theorem dX2_keepMade_31 : decode cX2_keepMade 31 = .ok (.aload_n 0, 1) := by decide +kernel
theorem dX2_keepMade_32 : decode cX2_keepMade 32 = .ok (.getfield 25, 3) := by decide +kernel
theorem dX2_keepMade_35 : decode cX2_keepMade 35 = .ok (.aload_n 0, 1) := by decide +kernel
theorem dX2_keepMade_36 : decode cX2_keepMade 36 = .ok (.getfield 44, 3) := by decide +kernel
theorem dX2_keepMade_39 : decode cX2_keepMade 39 = .ok (.iconst 3, 1) := by decide +kernel
theorem dX2_keepMade_40 : decode cX2_keepMade 40 = .ok (.imul, 1) := by decide +kernel
theorem dX2_keepMade_41 : decode cX2_keepMade 41 = .ok (.iload_n 1, 1) := by decide +kernel
theorem dX2_keepMade_42 : decode cX2_keepMade 42 = .ok (.iadd, 1) := by decide +kernel
theorem dX2_keepMade_43 : decode cX2_keepMade 43 = .ok (.iaload, 1) := by decide +kernel
theorem dX2_keepMade_44 : decode cX2_keepMade 44 = .ok (.iastore, 1) := by decide +kernel
theorem dX2_keepMade_45 : decode cX2_keepMade 45 = .ok (.aload_n 0, 1) := by decide +kernel
theorem dX2_keepMade_46 : decode cX2_keepMade 46 = .ok (.getfield 21, 3) := by decide +kernel
theorem dX2_keepMade_49 : decode cX2_keepMade 49 = .ok (.getfield 57, 3) := by decide +kernel
theorem dX2_keepMade_52 : decode cX2_keepMade 52 = .ok (.iload_n 2, 1) := by decide +kernel
theorem dX2_keepMade_53 : decode cX2_keepMade 53 = .ok (.aload_n 0, 1) := by decide +kernel
theorem dX2_keepMade_54 : decode cX2_keepMade 54 = .ok (.getfield 29, 3) := by decide +kernel
theorem dX2_keepMade_57 : decode cX2_keepMade 57 = .ok (.aload_n 0, 1) := by decide +kernel
theorem dX2_keepMade_58 : decode cX2_keepMade 58 = .ok (.getfield 44, 3) := by decide +kernel
theorem dX2_keepMade_61 : decode cX2_keepMade 61 = .ok (.iconst 3, 1) := by decide +kernel
theorem dX2_keepMade_62 : decode cX2_keepMade 62 = .ok (.imul, 1) := by decide +kernel
theorem dX2_keepMade_63 : decode cX2_keepMade 63 = .ok (.iload_n 1, 1) := by decide +kernel
theorem dX2_keepMade_64 : decode cX2_keepMade 64 = .ok (.iadd, 1) := by decide +kernel
theorem dX2_keepMade_65 : decode cX2_keepMade 65 = .ok (.iaload, 1) := by decide +kernel
theorem dX2_keepMade_66 : decode cX2_keepMade 66 = .ok (.iastore, 1) := by decide +kernel
theorem dX2_keepMade_67 : decode cX2_keepMade 67 = .ok (.iinc 1 1, 3) := by decide +kernel
theorem dX2_keepMade_70 : decode cX2_keepMade 70 = .ok (.goto (-68), 3) := by decide +kernel
theorem dX2_keepMade_73 : decode cX2_keepMade 73 = .ok (.aload_n 0, 1) := by decide +kernel
theorem dX2_keepMade_74 : decode cX2_keepMade 74 = .ok (.getfield 12, 3) := by decide +kernel
theorem dX2_keepMade_77 : decode cX2_keepMade 77 = .ok (.aload_n 0, 1) := by decide +kernel
theorem dX2_keepMade_78 : decode cX2_keepMade 78 = .ok (.getfield 21, 3) := by decide +kernel
theorem dX2_keepMade_81 : decode cX2_keepMade 81 = .ok (.aload_n 0, 1) := by decide +kernel
theorem dX2_keepMade_82 : decode cX2_keepMade 82 = .ok (.getfield 21, 3) := by decide +kernel
theorem dX2_keepMade_85 : decode cX2_keepMade 85 = .ok (.getfield 81, 3) := by decide +kernel
theorem dX2_keepMade_88 : decode cX2_keepMade 88 = .ok (.aload_n 0, 1) := by decide +kernel
theorem dX2_keepMade_89 : decode cX2_keepMade 89 = .ok (.getfield 40, 3) := by decide +kernel
theorem dX2_keepMade_92 : decode cX2_keepMade 92 = .ok (.iaload, 1) := by decide +kernel
theorem dX2_keepMade_93 : decode cX2_keepMade 93 = .ok (.invokevirtual 84, 3) := by decide +kernel
theorem dX2_keepMade_96 : decode cX2_keepMade 96 = .ok (.aload_n 0, 1) := by decide +kernel
theorem dX2_keepMade_97 : decode cX2_keepMade 97 = .ok (.getfield 32, 3) := by decide +kernel
theorem dX2_keepMade_100 : decode cX2_keepMade 100 = .ok (.aload_n 0, 1) := by decide +kernel
theorem dX2_keepMade_101 : decode cX2_keepMade 101 = .ok (.getfield 44, 3) := by decide +kernel
theorem dX2_keepMade_104 : decode cX2_keepMade 104 = .ok (.aload_n 0, 1) := by decide +kernel
theorem dX2_keepMade_105 : decode cX2_keepMade 105 = .ok (.getfield 12, 3) := by decide +kernel
theorem dX2_keepMade_108 : decode cX2_keepMade 108 = .ok (.aload_n 0, 1) := by decide +kernel
theorem dX2_keepMade_109 : decode cX2_keepMade 109 = .ok (.getfield 40, 3) := by decide +kernel
theorem dX2_keepMade_112 : decode cX2_keepMade 112 = .ok (.invokevirtual 88, 3) := by decide +kernel
theorem dX2_keepMade_115 : decode cX2_keepMade 115 = .ok (.lastore, 1) := by decide +kernel
theorem dX2_keepMade_116 : decode cX2_keepMade 116 = .ok (.aload_n 0, 1) := by decide +kernel
theorem dX2_keepMade_117 : decode cX2_keepMade 117 = .ok (.dup, 1) := by decide +kernel
theorem dX2_keepMade_118 : decode cX2_keepMade 118 = .ok (.getfield 44, 3) := by decide +kernel
theorem dX2_keepMade_121 : decode cX2_keepMade 121 = .ok (.iconst 1, 1) := by decide +kernel
theorem dX2_keepMade_122 : decode cX2_keepMade 122 = .ok (.iadd, 1) := by decide +kernel
theorem dX2_keepMade_123 : decode cX2_keepMade 123 = .ok (.putfield 44, 3) := by decide +kernel
theorem dX2_keepMade_126 : decode cX2_keepMade 126 = .ok (.return_, 1) := by decide +kernel
theorem dX2_worstPiece_0 : decode cX2_worstPiece 0 = .ok (.iconst 0, 1) := by decide +kernel
theorem dX2_worstPiece_1 : decode cX2_worstPiece 1 = .ok (.istore_n 1, 1) := by decide +kernel
theorem dX2_worstPiece_2 : decode cX2_worstPiece 2 = .ok (.iconst 1, 1) := by decide +kernel
theorem dX2_worstPiece_3 : decode cX2_worstPiece 3 = .ok (.istore_n 2, 1) := by decide +kernel
theorem dX2_worstPiece_4 : decode cX2_worstPiece 4 = .ok (.iload_n 2, 1) := by decide +kernel
theorem dX2_worstPiece_5 : decode cX2_worstPiece 5 = .ok (.aload_n 0, 1) := by decide +kernel
theorem dX2_worstPiece_6 : decode cX2_worstPiece 6 = .ok (.getfield 44, 3) := by decide +kernel
theorem dX2_worstPiece_9 : decode cX2_worstPiece 9 = .ok (.if_icmp .ge 27, 3) := by decide +kernel
theorem dX2_worstPiece_12 : decode cX2_worstPiece 12 = .ok (.aload_n 0, 1) := by decide +kernel
theorem dX2_worstPiece_13 : decode cX2_worstPiece 13 = .ok (.getfield 32, 3) := by decide +kernel
theorem dX2_worstPiece_16 : decode cX2_worstPiece 16 = .ok (.iload_n 2, 1) := by decide +kernel
theorem dX2_worstPiece_17 : decode cX2_worstPiece 17 = .ok (.laload, 1) := by decide +kernel
theorem dX2_worstPiece_18 : decode cX2_worstPiece 18 = .ok (.aload_n 0, 1) := by decide +kernel
theorem dX2_worstPiece_19 : decode cX2_worstPiece 19 = .ok (.getfield 32, 3) := by decide +kernel
theorem dX2_worstPiece_22 : decode cX2_worstPiece 22 = .ok (.iload_n 1, 1) := by decide +kernel
theorem dX2_worstPiece_23 : decode cX2_worstPiece 23 = .ok (.laload, 1) := by decide +kernel
theorem dX2_worstPiece_24 : decode cX2_worstPiece 24 = .ok (.lcmp, 1) := by decide +kernel
theorem dX2_worstPiece_25 : decode cX2_worstPiece 25 = .ok (.ifCond .le 5, 3) := by decide +kernel
theorem dX2_worstPiece_28 : decode cX2_worstPiece 28 = .ok (.iload_n 2, 1) := by decide +kernel
theorem dX2_worstPiece_29 : decode cX2_worstPiece 29 = .ok (.istore_n 1, 1) := by decide +kernel
theorem dX2_worstPiece_30 : decode cX2_worstPiece 30 = .ok (.iinc 2 1, 3) := by decide +kernel
theorem dX2_worstPiece_33 : decode cX2_worstPiece 33 = .ok (.goto (-29), 3) := by decide +kernel
theorem dX2_worstPiece_36 : decode cX2_worstPiece 36 = .ok (.iload_n 1, 1) := by decide +kernel
theorem dX2_worstPiece_37 : decode cX2_worstPiece 37 = .ok (.ireturn, 1) := by decide +kernel
theorem dX2_widestInput_0 : decode cX2_widestInput 0 = .ok (.iconst (-1), 1) := by decide +kernel
theorem dX2_widestInput_1 : decode cX2_widestInput 1 = .ok (.istore_n 2, 1) := by decide +kernel
theorem dX2_widestInput_2 : decode cX2_widestInput 2 = .ok (.iconst 0, 1) := by decide +kernel
theorem dX2_widestInput_3 : decode cX2_widestInput 3 = .ok (.istore_n 3, 1) := by decide +kernel
theorem dX2_widestInput_4 : decode cX2_widestInput 4 = .ok (.iconst 0, 1) := by decide +kernel
theorem dX2_widestInput_5 : decode cX2_widestInput 5 = .ok (.istore 4, 2) := by decide +kernel
theorem dX2_widestInput_7 : decode cX2_widestInput 7 = .ok (.iload 4, 2) := by decide +kernel
theorem dX2_widestInput_9 : decode cX2_widestInput 9 = .ok (.aload_n 0, 1) := by decide +kernel
theorem dX2_widestInput_10 : decode cX2_widestInput 10 = .ok (.getfield 21, 3) := by decide +kernel
theorem dX2_widestInput_13 : decode cX2_widestInput 13 = .ok (.getfield 50, 3) := by decide +kernel
theorem dX2_widestInput_16 : decode cX2_widestInput 16 = .ok (.if_icmp .ge 53, 3) := by decide +kernel
theorem dX2_widestInput_19 : decode cX2_widestInput 19 = .ok (.aload_n 0, 1) := by decide +kernel
theorem dX2_widestInput_20 : decode cX2_widestInput 20 = .ok (.getfield 29, 3) := by decide +kernel
theorem dX2_widestInput_23 : decode cX2_widestInput 23 = .ok (.iload_n 1, 1) := by decide +kernel
theorem dX2_widestInput_24 : decode cX2_widestInput 24 = .ok (.iconst 3, 1) := by decide +kernel
theorem dX2_widestInput_25 : decode cX2_widestInput 25 = .ok (.imul, 1) := by decide +kernel
theorem dX2_widestInput_26 : decode cX2_widestInput 26 = .ok (.iload 4, 2) := by decide +kernel
theorem dX2_widestInput_28 : decode cX2_widestInput 28 = .ok (.iadd, 1) := by decide +kernel
theorem dX2_widestInput_29 : decode cX2_widestInput 29 = .ok (.iaload, 1) := by decide +kernel
theorem dX2_widestInput_30 : decode cX2_widestInput 30 = .ok (.aload_n 0, 1) := by decide +kernel
theorem dX2_widestInput_31 : decode cX2_widestInput 31 = .ok (.getfield 25, 3) := by decide +kernel
theorem dX2_widestInput_34 : decode cX2_widestInput 34 = .ok (.iload_n 1, 1) := by decide +kernel
theorem dX2_widestInput_35 : decode cX2_widestInput 35 = .ok (.iconst 3, 1) := by decide +kernel
theorem dX2_widestInput_36 : decode cX2_widestInput 36 = .ok (.imul, 1) := by decide +kernel
theorem dX2_widestInput_37 : decode cX2_widestInput 37 = .ok (.iload 4, 2) := by decide +kernel
theorem dX2_widestInput_39 : decode cX2_widestInput 39 = .ok (.iadd, 1) := by decide +kernel
theorem dX2_widestInput_40 : decode cX2_widestInput 40 = .ok (.iaload, 1) := by decide +kernel
theorem dX2_widestInput_41 : decode cX2_widestInput 41 = .ok (.isub, 1) := by decide +kernel
theorem dX2_widestInput_42 : decode cX2_widestInput 42 = .ok (.istore 5, 2) := by decide +kernel
theorem dX2_widestInput_44 : decode cX2_widestInput 44 = .ok (.iload 5, 2) := by decide +kernel
theorem dX2_widestInput_46 : decode cX2_widestInput 46 = .ok (.iload_n 3, 1) := by decide +kernel
theorem dX2_widestInput_47 : decode cX2_widestInput 47 = .ok (.if_icmp .le 16, 3) := by decide +kernel
theorem dX2_widestInput_50 : decode cX2_widestInput 50 = .ok (.iload 5, 2) := by decide +kernel
theorem dX2_widestInput_52 : decode cX2_widestInput 52 = .ok (.iconst 4, 1) := by decide +kernel
theorem dX2_widestInput_53 : decode cX2_widestInput 53 = .ok (.irem, 1) := by decide +kernel
theorem dX2_widestInput_54 : decode cX2_widestInput 54 = .ok (.ifCond .ne 9, 3) := by decide +kernel
theorem dX2_widestInput_57 : decode cX2_widestInput 57 = .ok (.iload 4, 2) := by decide +kernel
theorem dX2_widestInput_59 : decode cX2_widestInput 59 = .ok (.istore_n 2, 1) := by decide +kernel
theorem dX2_widestInput_60 : decode cX2_widestInput 60 = .ok (.iload 5, 2) := by decide +kernel
theorem dX2_widestInput_62 : decode cX2_widestInput 62 = .ok (.istore_n 3, 1) := by decide +kernel
theorem dX2_widestInput_63 : decode cX2_widestInput 63 = .ok (.iinc 4 1, 3) := by decide +kernel
theorem dX2_widestInput_66 : decode cX2_widestInput 66 = .ok (.goto (-59), 3) := by decide +kernel
theorem dX2_widestInput_69 : decode cX2_widestInput 69 = .ok (.iload_n 2, 1) := by decide +kernel
theorem dX2_widestInput_70 : decode cX2_widestInput 70 = .ok (.ireturn, 1) := by decide +kernel
theorem dX3_init_0 : decode cX3_init 0 = .ok (.aload_n 0, 1) := by decide +kernel
theorem dX3_init_1 : decode cX3_init 1 = .ok (.invokespecial 3, 3) := by decide +kernel
theorem dX3_init_4 : decode cX3_init 4 = .ok (.aload_n 0, 1) := by decide +kernel
theorem dX3_init_5 : decode cX3_init 5 = .ok (.bipush 15, 2) := by decide +kernel
theorem dX3_init_7 : decode cX3_init 7 = .ok (.newarray .int, 2) := by decide +kernel
theorem dX3_init_9 : decode cX3_init 9 = .ok (.putfield 9, 3) := by decide +kernel
theorem dX3_init_12 : decode cX3_init 12 = .ok (.aload_n 0, 1) := by decide +kernel
theorem dX3_init_13 : decode cX3_init 13 = .ok (.bipush 15, 2) := by decide +kernel
theorem dX3_init_15 : decode cX3_init 15 = .ok (.newarray .int, 2) := by decide +kernel
theorem dX3_init_17 : decode cX3_init 17 = .ok (.putfield 15, 3) := by decide +kernel
theorem dX3_init_20 : decode cX3_init 20 = .ok (.aload_n 0, 1) := by decide +kernel
theorem dX3_init_21 : decode cX3_init 21 = .ok (.bipush 15, 2) := by decide +kernel
theorem dX3_init_23 : decode cX3_init 23 = .ok (.newarray .int, 2) := by decide +kernel
theorem dX3_init_25 : decode cX3_init 25 = .ok (.putfield 18, 3) := by decide +kernel
theorem dX3_init_28 : decode cX3_init 28 = .ok (.aload_n 0, 1) := by decide +kernel
theorem dX3_init_29 : decode cX3_init 29 = .ok (.bipush 15, 2) := by decide +kernel
theorem dX3_init_31 : decode cX3_init 31 = .ok (.newarray .int, 2) := by decide +kernel
theorem dX3_init_33 : decode cX3_init 33 = .ok (.putfield 21, 3) := by decide +kernel
theorem dX3_init_36 : decode cX3_init 36 = .ok (.aload_n 0, 1) := by decide +kernel
theorem dX3_init_37 : decode cX3_init 37 = .ok (.bipush 15, 2) := by decide +kernel
theorem dX3_init_39 : decode cX3_init 39 = .ok (.newarray .int, 2) := by decide +kernel
theorem dX3_init_41 : decode cX3_init 41 = .ok (.putfield 24, 3) := by decide +kernel
theorem dX3_init_44 : decode cX3_init 44 = .ok (.aload_n 0, 1) := by decide +kernel
theorem dX3_init_45 : decode cX3_init 45 = .ok (.bipush 15, 2) := by decide +kernel
theorem dX3_init_47 : decode cX3_init 47 = .ok (.newarray .int, 2) := by decide +kernel
theorem dX3_init_49 : decode cX3_init 49 = .ok (.putfield 27, 3) := by decide +kernel
theorem dX3_init_52 : decode cX3_init 52 = .ok (.aload_n 0, 1) := by decide +kernel
theorem dX3_init_53 : decode cX3_init 53 = .ok (.bipush 15, 2) := by decide +kernel
theorem dX3_init_55 : decode cX3_init 55 = .ok (.newarray .long, 2) := by decide +kernel
theorem dX3_init_57 : decode cX3_init 57 = .ok (.putfield 30, 3) := by decide +kernel
theorem dX3_init_60 : decode cX3_init 60 = .ok (.aload_n 0, 1) := by decide +kernel
theorem dX3_init_61 : decode cX3_init 61 = .ok (.bipush 15, 2) := by decide +kernel
theorem dX3_init_63 : decode cX3_init 63 = .ok (.newarray .int, 2) := by decide +kernel
theorem dX3_init_65 : decode cX3_init 65 = .ok (.putfield 34, 3) := by decide +kernel
theorem dX3_init_68 : decode cX3_init 68 = .ok (.aload_n 0, 1) := by decide +kernel
theorem dX3_init_69 : decode cX3_init 69 = .ok (.bipush 60, 2) := by decide +kernel
theorem dX3_init_71 : decode cX3_init 71 = .ok (.newarray .int, 2) := by decide +kernel
theorem dX3_init_73 : decode cX3_init 73 = .ok (.putfield 37, 3) := by decide +kernel
theorem dX3_init_76 : decode cX3_init 76 = .ok (.aload_n 0, 1) := by decide +kernel
theorem dX3_init_77 : decode cX3_init 77 = .ok (.bipush 60, 2) := by decide +kernel
theorem dX3_init_79 : decode cX3_init 79 = .ok (.newarray .int, 2) := by decide +kernel
theorem dX3_init_81 : decode cX3_init 81 = .ok (.putfield 40, 3) := by decide +kernel
theorem dX3_init_84 : decode cX3_init 84 = .ok (.aload_n 0, 1) := by decide +kernel
theorem dX3_init_85 : decode cX3_init 85 = .ok (.iconst 3, 1) := by decide +kernel
theorem dX3_init_86 : decode cX3_init 86 = .ok (.newarray .int, 2) := by decide +kernel
theorem dX3_init_88 : decode cX3_init 88 = .ok (.putfield 43, 3) := by decide +kernel
theorem dX3_init_91 : decode cX3_init 91 = .ok (.return_, 1) := by decide +kernel
theorem dX3_copy_0 : decode cX3_copy 0 = .ok (.aload_n 1, 1) := by decide +kernel
theorem dX3_copy_1 : decode cX3_copy 1 = .ok (.getfield 9, 3) := by decide +kernel
theorem dX3_copy_4 : decode cX3_copy 4 = .ok (.iconst 0, 1) := by decide +kernel
theorem dX3_copy_5 : decode cX3_copy 5 = .ok (.aload_n 0, 1) := by decide +kernel
theorem dX3_copy_6 : decode cX3_copy 6 = .ok (.getfield 9, 3) := by decide +kernel
theorem dX3_copy_9 : decode cX3_copy 9 = .ok (.iconst 0, 1) := by decide +kernel
theorem dX3_copy_10 : decode cX3_copy 10 = .ok (.bipush 15, 2) := by decide +kernel
theorem dX3_copy_12 : decode cX3_copy 12 = .ok (.invokestatic 46, 3) := by decide +kernel
theorem dX3_copy_15 : decode cX3_copy 15 = .ok (.aload_n 1, 1) := by decide +kernel
theorem dX3_copy_16 : decode cX3_copy 16 = .ok (.getfield 15, 3) := by decide +kernel
theorem dX3_copy_19 : decode cX3_copy 19 = .ok (.iconst 0, 1) := by decide +kernel
theorem dX3_copy_20 : decode cX3_copy 20 = .ok (.aload_n 0, 1) := by decide +kernel
theorem dX3_copy_21 : decode cX3_copy 21 = .ok (.getfield 15, 3) := by decide +kernel
theorem dX3_copy_24 : decode cX3_copy 24 = .ok (.iconst 0, 1) := by decide +kernel
theorem dX3_copy_25 : decode cX3_copy 25 = .ok (.bipush 15, 2) := by decide +kernel
theorem dX3_copy_27 : decode cX3_copy 27 = .ok (.invokestatic 46, 3) := by decide +kernel
theorem dX3_copy_30 : decode cX3_copy 30 = .ok (.aload_n 1, 1) := by decide +kernel
theorem dX3_copy_31 : decode cX3_copy 31 = .ok (.getfield 18, 3) := by decide +kernel
theorem dX3_copy_34 : decode cX3_copy 34 = .ok (.iconst 0, 1) := by decide +kernel
theorem dX3_copy_35 : decode cX3_copy 35 = .ok (.aload_n 0, 1) := by decide +kernel
theorem dX3_copy_36 : decode cX3_copy 36 = .ok (.getfield 18, 3) := by decide +kernel
theorem dX3_copy_39 : decode cX3_copy 39 = .ok (.iconst 0, 1) := by decide +kernel
theorem dX3_copy_40 : decode cX3_copy 40 = .ok (.bipush 15, 2) := by decide +kernel
theorem dX3_copy_42 : decode cX3_copy 42 = .ok (.invokestatic 46, 3) := by decide +kernel
theorem dX3_copy_45 : decode cX3_copy 45 = .ok (.aload_n 1, 1) := by decide +kernel
theorem dX3_copy_46 : decode cX3_copy 46 = .ok (.getfield 21, 3) := by decide +kernel
theorem dX3_copy_49 : decode cX3_copy 49 = .ok (.iconst 0, 1) := by decide +kernel
theorem dX3_copy_50 : decode cX3_copy 50 = .ok (.aload_n 0, 1) := by decide +kernel
theorem dX3_copy_51 : decode cX3_copy 51 = .ok (.getfield 21, 3) := by decide +kernel
theorem dX3_copy_54 : decode cX3_copy 54 = .ok (.iconst 0, 1) := by decide +kernel
theorem dX3_copy_55 : decode cX3_copy 55 = .ok (.bipush 15, 2) := by decide +kernel
theorem dX3_copy_57 : decode cX3_copy 57 = .ok (.invokestatic 46, 3) := by decide +kernel
theorem dX3_copy_60 : decode cX3_copy 60 = .ok (.aload_n 1, 1) := by decide +kernel
theorem dX3_copy_61 : decode cX3_copy 61 = .ok (.getfield 24, 3) := by decide +kernel
theorem dX3_copy_64 : decode cX3_copy 64 = .ok (.iconst 0, 1) := by decide +kernel
theorem dX3_copy_65 : decode cX3_copy 65 = .ok (.aload_n 0, 1) := by decide +kernel
theorem dX3_copy_66 : decode cX3_copy 66 = .ok (.getfield 24, 3) := by decide +kernel
theorem dX3_copy_69 : decode cX3_copy 69 = .ok (.iconst 0, 1) := by decide +kernel
theorem dX3_copy_70 : decode cX3_copy 70 = .ok (.bipush 15, 2) := by decide +kernel
theorem dX3_copy_72 : decode cX3_copy 72 = .ok (.invokestatic 46, 3) := by decide +kernel
theorem dX3_copy_75 : decode cX3_copy 75 = .ok (.aload_n 1, 1) := by decide +kernel
theorem dX3_copy_76 : decode cX3_copy 76 = .ok (.getfield 27, 3) := by decide +kernel
theorem dX3_copy_79 : decode cX3_copy 79 = .ok (.iconst 0, 1) := by decide +kernel
theorem dX3_copy_80 : decode cX3_copy 80 = .ok (.aload_n 0, 1) := by decide +kernel
theorem dX3_copy_81 : decode cX3_copy 81 = .ok (.getfield 27, 3) := by decide +kernel
theorem dX3_copy_84 : decode cX3_copy 84 = .ok (.iconst 0, 1) := by decide +kernel
theorem dX3_copy_85 : decode cX3_copy 85 = .ok (.bipush 15, 2) := by decide +kernel
theorem dX3_copy_87 : decode cX3_copy 87 = .ok (.invokestatic 46, 3) := by decide +kernel
theorem dX3_copy_90 : decode cX3_copy 90 = .ok (.aload_n 1, 1) := by decide +kernel
theorem dX3_copy_91 : decode cX3_copy 91 = .ok (.getfield 30, 3) := by decide +kernel
theorem dX3_copy_94 : decode cX3_copy 94 = .ok (.iconst 0, 1) := by decide +kernel
theorem dX3_copy_95 : decode cX3_copy 95 = .ok (.aload_n 0, 1) := by decide +kernel
theorem dX3_copy_96 : decode cX3_copy 96 = .ok (.getfield 30, 3) := by decide +kernel
theorem dX3_copy_99 : decode cX3_copy 99 = .ok (.iconst 0, 1) := by decide +kernel
theorem dX3_copy_100 : decode cX3_copy 100 = .ok (.bipush 15, 2) := by decide +kernel
theorem dX3_copy_102 : decode cX3_copy 102 = .ok (.invokestatic 46, 3) := by decide +kernel
theorem dX3_copy_105 : decode cX3_copy 105 = .ok (.aload_n 1, 1) := by decide +kernel
theorem dX3_copy_106 : decode cX3_copy 106 = .ok (.getfield 34, 3) := by decide +kernel
theorem dX3_copy_109 : decode cX3_copy 109 = .ok (.iconst 0, 1) := by decide +kernel
theorem dX3_copy_110 : decode cX3_copy 110 = .ok (.aload_n 0, 1) := by decide +kernel
theorem dX3_copy_111 : decode cX3_copy 111 = .ok (.getfield 34, 3) := by decide +kernel
theorem dX3_copy_114 : decode cX3_copy 114 = .ok (.iconst 0, 1) := by decide +kernel
theorem dX3_copy_115 : decode cX3_copy 115 = .ok (.bipush 15, 2) := by decide +kernel
theorem dX3_copy_117 : decode cX3_copy 117 = .ok (.invokestatic 46, 3) := by decide +kernel
theorem dX3_copy_120 : decode cX3_copy 120 = .ok (.aload_n 1, 1) := by decide +kernel
theorem dX3_copy_121 : decode cX3_copy 121 = .ok (.getfield 37, 3) := by decide +kernel
theorem dX3_copy_124 : decode cX3_copy 124 = .ok (.iconst 0, 1) := by decide +kernel
theorem dX3_copy_125 : decode cX3_copy 125 = .ok (.aload_n 0, 1) := by decide +kernel
theorem dX3_copy_126 : decode cX3_copy 126 = .ok (.getfield 37, 3) := by decide +kernel
theorem dX3_copy_129 : decode cX3_copy 129 = .ok (.iconst 0, 1) := by decide +kernel
theorem dX3_copy_130 : decode cX3_copy 130 = .ok (.bipush 60, 2) := by decide +kernel
theorem dX3_copy_132 : decode cX3_copy 132 = .ok (.invokestatic 46, 3) := by decide +kernel
theorem dX3_copy_135 : decode cX3_copy 135 = .ok (.aload_n 1, 1) := by decide +kernel
theorem dX3_copy_136 : decode cX3_copy 136 = .ok (.getfield 40, 3) := by decide +kernel
theorem dX3_copy_139 : decode cX3_copy 139 = .ok (.iconst 0, 1) := by decide +kernel
theorem dX3_copy_140 : decode cX3_copy 140 = .ok (.aload_n 0, 1) := by decide +kernel
theorem dX3_copy_141 : decode cX3_copy 141 = .ok (.getfield 40, 3) := by decide +kernel
theorem dX3_copy_144 : decode cX3_copy 144 = .ok (.iconst 0, 1) := by decide +kernel
theorem dX3_copy_145 : decode cX3_copy 145 = .ok (.bipush 60, 2) := by decide +kernel
theorem dX3_copy_147 : decode cX3_copy 147 = .ok (.invokestatic 46, 3) := by decide +kernel
theorem dX3_copy_150 : decode cX3_copy 150 = .ok (.aload_n 1, 1) := by decide +kernel
theorem dX3_copy_151 : decode cX3_copy 151 = .ok (.getfield 43, 3) := by decide +kernel
theorem dX3_copy_154 : decode cX3_copy 154 = .ok (.iconst 0, 1) := by decide +kernel
theorem dX3_copy_155 : decode cX3_copy 155 = .ok (.aload_n 0, 1) := by decide +kernel
theorem dX3_copy_156 : decode cX3_copy 156 = .ok (.getfield 43, 3) := by decide +kernel
theorem dX3_copy_159 : decode cX3_copy 159 = .ok (.iconst 0, 1) := by decide +kernel
theorem dX3_copy_160 : decode cX3_copy 160 = .ok (.iconst 3, 1) := by decide +kernel
theorem dX3_copy_161 : decode cX3_copy 161 = .ok (.invokestatic 46, 3) := by decide +kernel
theorem dX3_copy_164 : decode cX3_copy 164 = .ok (.aload_n 0, 1) := by decide +kernel
theorem dX3_copy_165 : decode cX3_copy 165 = .ok (.aload_n 1, 1) := by decide +kernel
theorem dX3_copy_166 : decode cX3_copy 166 = .ok (.getfield 52, 3) := by decide +kernel
theorem dX3_copy_169 : decode cX3_copy 169 = .ok (.putfield 52, 3) := by decide +kernel
theorem dX3_copy_172 : decode cX3_copy 172 = .ok (.aload_n 0, 1) := by decide +kernel
theorem dX3_copy_173 : decode cX3_copy 173 = .ok (.aload_n 1, 1) := by decide +kernel
theorem dX3_copy_174 : decode cX3_copy 174 = .ok (.getfield 56, 3) := by decide +kernel
theorem dX3_copy_177 : decode cX3_copy 177 = .ok (.putfield 56, 3) := by decide +kernel
theorem dX3_copy_180 : decode cX3_copy 180 = .ok (.return_, 1) := by decide +kernel
theorem dX3_steps_0 : decode cX3_steps 0 = .ok (.aload_n 0, 1) := by decide +kernel
theorem dX3_steps_1 : decode cX3_steps 1 = .ok (.getfield 52, 3) := by decide +kernel
theorem dX3_steps_4 : decode cX3_steps 4 = .ok (.aload_n 0, 1) := by decide +kernel
theorem dX3_steps_5 : decode cX3_steps 5 = .ok (.getfield 56, 3) := by decide +kernel
theorem dX3_steps_8 : decode cX3_steps 8 = .ok (.isub, 1) := by decide +kernel
theorem dX3_steps_9 : decode cX3_steps 9 = .ok (.ireturn, 1) := by decide +kernel
theorem dX3_has_0 : decode cX3_has 0 = .ok (.iload_n 1, 1) := by decide +kernel
theorem dX3_has_1 : decode cX3_has 1 = .ok (.ifCond .lt 15, 3) := by decide +kernel
theorem dX3_has_4 : decode cX3_has 4 = .ok (.iload_n 1, 1) := by decide +kernel
theorem dX3_has_5 : decode cX3_has 5 = .ok (.aload_n 0, 1) := by decide +kernel
theorem dX3_has_6 : decode cX3_has 6 = .ok (.getfield 52, 3) := by decide +kernel
theorem dX3_has_9 : decode cX3_has 9 = .ok (.if_icmp .ge 7, 3) := by decide +kernel
theorem dX3_has_12 : decode cX3_has 12 = .ok (.iconst 1, 1) := by decide +kernel
theorem dX3_has_13 : decode cX3_has 13 = .ok (.goto 4, 3) := by decide +kernel
theorem dX3_has_16 : decode cX3_has 16 = .ok (.iconst 0, 1) := by decide +kernel
theorem dX3_has_17 : decode cX3_has 17 = .ok (.ireturn, 1) := by decide +kernel
theorem dX3_isInput_0 : decode cX3_isInput 0 = .ok (.iload_n 1, 1) := by decide +kernel
theorem dX3_isInput_1 : decode cX3_isInput 1 = .ok (.ifCond .lt 26, 3) := by decide +kernel
theorem dX3_isInput_4 : decode cX3_isInput 4 = .ok (.iload_n 1, 1) := by decide +kernel
theorem dX3_isInput_5 : decode cX3_isInput 5 = .ok (.aload_n 0, 1) := by decide +kernel
theorem dX3_isInput_6 : decode cX3_isInput 6 = .ok (.getfield 52, 3) := by decide +kernel
theorem dX3_isInput_9 : decode cX3_isInput 9 = .ok (.if_icmp .ge 18, 3) := by decide +kernel
theorem dX3_isInput_12 : decode cX3_isInput 12 = .ok (.aload_n 0, 1) := by decide +kernel
theorem dX3_isInput_13 : decode cX3_isInput 13 = .ok (.getfield 9, 3) := by decide +kernel
theorem dX3_isInput_16 : decode cX3_isInput 16 = .ok (.iload_n 1, 1) := by decide +kernel
theorem dX3_isInput_17 : decode cX3_isInput 17 = .ok (.iaload, 1) := by decide +kernel
theorem dX3_isInput_18 : decode cX3_isInput 18 = .ok (.bipush (-2), 2) := by decide +kernel
theorem dX3_isInput_20 : decode cX3_isInput 20 = .ok (.if_icmp .ne 7, 3) := by decide +kernel
theorem dX3_isInput_23 : decode cX3_isInput 23 = .ok (.iconst 1, 1) := by decide +kernel
theorem dX3_isInput_24 : decode cX3_isInput 24 = .ok (.goto 4, 3) := by decide +kernel
theorem dX3_isInput_27 : decode cX3_isInput 27 = .ok (.iconst 0, 1) := by decide +kernel
theorem dX3_isInput_28 : decode cX3_isInput 28 = .ok (.ireturn, 1) := by decide +kernel
theorem dX3_isStep_0 : decode cX3_isStep 0 = .ok (.iload_n 1, 1) := by decide +kernel
theorem dX3_isStep_1 : decode cX3_isStep 1 = .ok (.ifCond .lt 26, 3) := by decide +kernel
theorem dX3_isStep_4 : decode cX3_isStep 4 = .ok (.iload_n 1, 1) := by decide +kernel
theorem dX3_isStep_5 : decode cX3_isStep 5 = .ok (.aload_n 0, 1) := by decide +kernel
theorem dX3_isStep_6 : decode cX3_isStep 6 = .ok (.getfield 52, 3) := by decide +kernel
theorem dX3_isStep_9 : decode cX3_isStep 9 = .ok (.if_icmp .ge 18, 3) := by decide +kernel
theorem dX3_isStep_12 : decode cX3_isStep 12 = .ok (.aload_n 0, 1) := by decide +kernel
theorem dX3_isStep_13 : decode cX3_isStep 13 = .ok (.getfield 9, 3) := by decide +kernel
theorem dX3_isStep_16 : decode cX3_isStep 16 = .ok (.iload_n 1, 1) := by decide +kernel
theorem dX3_isStep_17 : decode cX3_isStep 17 = .ok (.iaload, 1) := by decide +kernel
theorem dX3_isStep_18 : decode cX3_isStep 18 = .ok (.bipush (-2), 2) := by decide +kernel
theorem dX3_isStep_20 : decode cX3_isStep 20 = .ok (.if_icmp .eq 7, 3) := by decide +kernel
theorem dX3_isStep_23 : decode cX3_isStep 23 = .ok (.iconst 1, 1) := by decide +kernel
theorem dX3_isStep_24 : decode cX3_isStep 24 = .ok (.goto 4, 3) := by decide +kernel
theorem dX3_isStep_27 : decode cX3_isStep 27 = .ok (.iconst 0, 1) := by decide +kernel
theorem dX3_isStep_28 : decode cX3_isStep 28 = .ok (.ireturn, 1) := by decide +kernel
theorem dX3_isPick_0 : decode cX3_isPick 0 = .ok (.iload_n 1, 1) := by decide +kernel
theorem dX3_isPick_1 : decode cX3_isPick 1 = .ok (.ifCond .lt 25, 3) := by decide +kernel
theorem dX3_isPick_4 : decode cX3_isPick 4 = .ok (.iload_n 1, 1) := by decide +kernel
theorem dX3_isPick_5 : decode cX3_isPick 5 = .ok (.aload_n 0, 1) := by decide +kernel
theorem dX3_isPick_6 : decode cX3_isPick 6 = .ok (.getfield 52, 3) := by decide +kernel
theorem dX3_isPick_9 : decode cX3_isPick 9 = .ok (.if_icmp .ge 17, 3) := by decide +kernel
theorem dX3_isPick_12 : decode cX3_isPick 12 = .ok (.aload_n 0, 1) := by decide +kernel
theorem dX3_isPick_13 : decode cX3_isPick 13 = .ok (.getfield 9, 3) := by decide +kernel
theorem dX3_isPick_16 : decode cX3_isPick 16 = .ok (.iload_n 1, 1) := by decide +kernel
theorem dX3_isPick_17 : decode cX3_isPick 17 = .ok (.iaload, 1) := by decide +kernel
theorem dX3_isPick_18 : decode cX3_isPick 18 = .ok (.iconst 3, 1) := by decide +kernel
theorem dX3_isPick_19 : decode cX3_isPick 19 = .ok (.if_icmp .ne 7, 3) := by decide +kernel
theorem dX3_isPick_22 : decode cX3_isPick 22 = .ok (.iconst 1, 1) := by decide +kernel
theorem dX3_isPick_23 : decode cX3_isPick 23 = .ok (.goto 4, 3) := by decide +kernel
theorem dX3_isPick_26 : decode cX3_isPick 26 = .ok (.iconst 0, 1) := by decide +kernel
theorem dX3_isPick_27 : decode cX3_isPick 27 = .ok (.ireturn, 1) := by decide +kernel
theorem dX3_operands_0 : decode cX3_operands 0 = .ok (.aload_n 0, 1) := by decide +kernel
theorem dX3_operands_1 : decode cX3_operands 1 = .ok (.iload_n 1, 1) := by decide +kernel
theorem dX3_operands_2 : decode cX3_operands 2 = .ok (.invokevirtual 59, 3) := by decide +kernel
theorem dX3_operands_5 : decode cX3_operands 5 = .ok (.ifCond .eq 7, 3) := by decide +kernel
theorem dX3_operands_8 : decode cX3_operands 8 = .ok (.iconst 4, 1) := by decide +kernel
theorem dX3_operands_9 : decode cX3_operands 9 = .ok (.goto 4, 3) := by decide +kernel
theorem dX3_operands_12 : decode cX3_operands 12 = .ok (.iconst 2, 1) := by decide +kernel
theorem dX3_operands_13 : decode cX3_operands 13 = .ok (.ireturn, 1) := by decide +kernel
theorem dX3_needs_0 : decode cX3_needs 0 = .ok (.aload_n 0, 1) := by decide +kernel
theorem dX3_needs_1 : decode cX3_needs 1 = .ok (.getfield 34, 3) := by decide +kernel
theorem dX3_needs_4 : decode cX3_needs 4 = .ok (.iload_n 1, 1) := by decide +kernel
theorem dX3_needs_5 : decode cX3_needs 5 = .ok (.iaload, 1) := by decide +kernel
theorem dX3_needs_6 : decode cX3_needs 6 = .ok (.iload_n 2, 1) := by decide +kernel
theorem dX3_needs_7 : decode cX3_needs 7 = .ok (.ishr, 1) := by decide +kernel
theorem dX3_needs_8 : decode cX3_needs 8 = .ok (.iconst 1, 1) := by decide +kernel
theorem dX3_needs_9 : decode cX3_needs 9 = .ok (.iand, 1) := by decide +kernel
theorem dX3_needs_10 : decode cX3_needs 10 = .ok (.ifCond .eq 7, 3) := by decide +kernel
theorem dX3_needs_13 : decode cX3_needs 13 = .ok (.iconst 1, 1) := by decide +kernel
theorem dX3_needs_14 : decode cX3_needs 14 = .ok (.goto 4, 3) := by decide +kernel
theorem dX3_needs_17 : decode cX3_needs 17 = .ok (.iconst 0, 1) := by decide +kernel
theorem dX3_needs_18 : decode cX3_needs 18 = .ok (.ireturn, 1) := by decide +kernel
theorem dX3_named_0 : decode cX3_named 0 = .ok (.iconst 0, 1) := by decide +kernel
theorem dX3_named_1 : decode cX3_named 1 = .ok (.istore_n 2, 1) := by decide +kernel
theorem dX3_named_2 : decode cX3_named 2 = .ok (.iload_n 2, 1) := by decide +kernel
theorem dX3_named_3 : decode cX3_named 3 = .ok (.aload_n 0, 1) := by decide +kernel
theorem dX3_named_4 : decode cX3_named 4 = .ok (.getfield 52, 3) := by decide +kernel
theorem dX3_named_7 : decode cX3_named 7 = .ok (.if_icmp .ge 21, 3) := by decide +kernel
theorem dX3_named_10 : decode cX3_named 10 = .ok (.aload_n 0, 1) := by decide +kernel
theorem dX3_named_11 : decode cX3_named 11 = .ok (.getfield 15, 3) := by decide +kernel
theorem dX3_named_14 : decode cX3_named 14 = .ok (.iload_n 2, 1) := by decide +kernel
theorem dX3_named_15 : decode cX3_named 15 = .ok (.iaload, 1) := by decide +kernel
theorem dX3_named_16 : decode cX3_named 16 = .ok (.iload_n 1, 1) := by decide +kernel
theorem dX3_named_17 : decode cX3_named 17 = .ok (.if_icmp .ne 5, 3) := by decide +kernel
theorem dX3_named_20 : decode cX3_named 20 = .ok (.iload_n 2, 1) := by decide +kernel
theorem dX3_named_21 : decode cX3_named 21 = .ok (.ireturn, 1) := by decide +kernel
theorem dX3_named_22 : decode cX3_named 22 = .ok (.iinc 2 1, 3) := by decide +kernel
theorem dX3_named_25 : decode cX3_named 25 = .ok (.goto (-23), 3) := by decide +kernel
theorem dX3_named_28 : decode cX3_named 28 = .ok (.iconst (-1), 1) := by decide +kernel
theorem dX3_named_29 : decode cX3_named 29 = .ok (.ireturn, 1) := by decide +kernel
theorem dX3_tellInput_0 : decode cX3_tellInput 0 = .ok (.aload_n 0, 1) := by decide +kernel
theorem dX3_tellInput_1 : decode cX3_tellInput 1 = .ok (.getfield 52, 3) := by decide +kernel
theorem dX3_tellInput_4 : decode cX3_tellInput 4 = .ok (.bipush 15, 2) := by decide +kernel
theorem dX3_tellInput_6 : decode cX3_tellInput 6 = .ok (.if_icmp .ge 11, 3) := by decide +kernel
theorem dX3_tellInput_9 : decode cX3_tellInput 9 = .ok (.aload_n 0, 1) := by decide +kernel
theorem dX3_tellInput_10 : decode cX3_tellInput 10 = .ok (.getfield 56, 3) := by decide +kernel
theorem dX3_tellInput_13 : decode cX3_tellInput 13 = .ok (.iconst 3, 1) := by decide +kernel
theorem dX3_tellInput_14 : decode cX3_tellInput 14 = .ok (.if_icmp .lt 4, 3) := by decide +kernel
theorem dX3_tellInput_17 : decode cX3_tellInput 17 = .ok (.return_, 1) := by decide +kernel
theorem dX3_tellInput_18 : decode cX3_tellInput 18 = .ok (.aload_n 0, 1) := by decide +kernel
theorem dX3_tellInput_19 : decode cX3_tellInput 19 = .ok (.getfield 52, 3) := by decide +kernel
theorem dX3_tellInput_22 : decode cX3_tellInput 22 = .ok (.istore 4, 2) := by decide +kernel
theorem dX3_tellInput_24 : decode cX3_tellInput 24 = .ok (.aload_n 0, 1) := by decide +kernel
theorem dX3_tellInput_25 : decode cX3_tellInput 25 = .ok (.getfield 9, 3) := by decide +kernel
theorem dX3_tellInput_28 : decode cX3_tellInput 28 = .ok (.iload 4, 2) := by decide +kernel
theorem dX3_tellInput_30 : decode cX3_tellInput 30 = .ok (.bipush (-2), 2) := by decide +kernel
theorem dX3_tellInput_32 : decode cX3_tellInput 32 = .ok (.iastore, 1) := by decide +kernel
theorem dX3_tellInput_33 : decode cX3_tellInput 33 = .ok (.aload_n 0, 1) := by decide +kernel
theorem dX3_tellInput_34 : decode cX3_tellInput 34 = .ok (.getfield 15, 3) := by decide +kernel
theorem dX3_tellInput_37 : decode cX3_tellInput 37 = .ok (.iload 4, 2) := by decide +kernel
theorem dX3_tellInput_39 : decode cX3_tellInput 39 = .ok (.iload_n 1, 1) := by decide +kernel
theorem dX3_tellInput_40 : decode cX3_tellInput 40 = .ok (.iastore, 1) := by decide +kernel
theorem dX3_tellInput_41 : decode cX3_tellInput 41 = .ok (.aload_n 0, 1) := by decide +kernel
theorem dX3_tellInput_42 : decode cX3_tellInput 42 = .ok (.getfield 18, 3) := by decide +kernel
theorem dX3_tellInput_45 : decode cX3_tellInput 45 = .ok (.iload 4, 2) := by decide +kernel
theorem dX3_tellInput_47 : decode cX3_tellInput 47 = .ok (.iload_n 2, 1) := by decide +kernel
theorem dX3_tellInput_48 : decode cX3_tellInput 48 = .ok (.iastore, 1) := by decide +kernel
theorem dX3_tellInput_49 : decode cX3_tellInput 49 = .ok (.aload_n 0, 1) := by decide +kernel
theorem dX3_tellInput_50 : decode cX3_tellInput 50 = .ok (.getfield 21, 3) := by decide +kernel
theorem dX3_tellInput_53 : decode cX3_tellInput 53 = .ok (.iload 4, 2) := by decide +kernel
theorem dX3_tellInput_55 : decode cX3_tellInput 55 = .ok (.iload_n 3, 1) := by decide +kernel
theorem dX3_tellInput_56 : decode cX3_tellInput 56 = .ok (.iastore, 1) := by decide +kernel
theorem dX3_tellInput_57 : decode cX3_tellInput 57 = .ok (.aload_n 0, 1) := by decide +kernel
theorem dX3_tellInput_58 : decode cX3_tellInput 58 = .ok (.getfield 24, 3) := by decide +kernel
theorem dX3_tellInput_61 : decode cX3_tellInput 61 = .ok (.iload 4, 2) := by decide +kernel
theorem dX3_tellInput_63 : decode cX3_tellInput 63 = .ok (.iconst 0, 1) := by decide +kernel
theorem dX3_tellInput_64 : decode cX3_tellInput 64 = .ok (.iastore, 1) := by decide +kernel
theorem dX3_tellInput_65 : decode cX3_tellInput 65 = .ok (.aload_n 0, 1) := by decide +kernel
theorem dX3_tellInput_66 : decode cX3_tellInput 66 = .ok (.getfield 43, 3) := by decide +kernel
theorem dX3_tellInput_69 : decode cX3_tellInput 69 = .ok (.aload_n 0, 1) := by decide +kernel
theorem dX3_tellInput_70 : decode cX3_tellInput 70 = .ok (.getfield 56, 3) := by decide +kernel
theorem dX3_tellInput_73 : decode cX3_tellInput 73 = .ok (.iload 4, 2) := by decide +kernel
theorem dX3_tellInput_75 : decode cX3_tellInput 75 = .ok (.iastore, 1) := by decide +kernel
theorem dX3_tellInput_76 : decode cX3_tellInput 76 = .ok (.aload_n 0, 1) := by decide +kernel
theorem dX3_tellInput_77 : decode cX3_tellInput 77 = .ok (.dup, 1) := by decide +kernel
theorem dX3_tellInput_78 : decode cX3_tellInput 78 = .ok (.getfield 56, 3) := by decide +kernel
theorem dX3_tellInput_81 : decode cX3_tellInput 81 = .ok (.iconst 1, 1) := by decide +kernel
theorem dX3_tellInput_82 : decode cX3_tellInput 82 = .ok (.iadd, 1) := by decide +kernel
theorem dX3_tellInput_83 : decode cX3_tellInput 83 = .ok (.putfield 56, 3) := by decide +kernel
theorem dX3_tellInput_86 : decode cX3_tellInput 86 = .ok (.aload_n 0, 1) := by decide +kernel
theorem dX3_tellInput_87 : decode cX3_tellInput 87 = .ok (.dup, 1) := by decide +kernel
theorem dX3_tellInput_88 : decode cX3_tellInput 88 = .ok (.getfield 52, 3) := by decide +kernel
theorem dX3_tellInput_91 : decode cX3_tellInput 91 = .ok (.iconst 1, 1) := by decide +kernel
theorem dX3_tellInput_92 : decode cX3_tellInput 92 = .ok (.iadd, 1) := by decide +kernel
theorem dX3_tellInput_93 : decode cX3_tellInput 93 = .ok (.putfield 52, 3) := by decide +kernel
theorem dX3_tellInput_96 : decode cX3_tellInput 96 = .ok (.aload_n 0, 1) := by decide +kernel
theorem dX3_tellInput_97 : decode cX3_tellInput 97 = .ok (.iload 4, 2) := by decide +kernel
theorem dX3_tellInput_99 : decode cX3_tellInput 99 = .ok (.invokevirtual 63, 3) := by decide +kernel
theorem dX3_tellInput_102 : decode cX3_tellInput 102 = .ok (.pop, 1) := by decide +kernel
theorem dX3_tellInput_103 : decode cX3_tellInput 103 = .ok (.return_, 1) := by decide +kernel
theorem dX3_tellOperand_0 : decode cX3_tellOperand 0 = .ok (.aload_n 0, 1) := by decide +kernel
theorem dX3_tellOperand_1 : decode cX3_tellOperand 1 = .ok (.getfield 52, 3) := by decide +kernel
theorem dX3_tellOperand_4 : decode cX3_tellOperand 4 = .ok (.bipush 15, 2) := by decide +kernel
theorem dX3_tellOperand_6 : decode cX3_tellOperand 6 = .ok (.if_icmp .ge 12, 3) := by decide +kernel
theorem dX3_tellOperand_9 : decode cX3_tellOperand 9 = .ok (.iload_n 1, 1) := by decide +kernel
theorem dX3_tellOperand_10 : decode cX3_tellOperand 10 = .ok (.ifCond .lt 8, 3) := by decide +kernel
theorem dX3_tellOperand_13 : decode cX3_tellOperand 13 = .ok (.iload_n 1, 1) := by decide +kernel
theorem dX3_tellOperand_14 : decode cX3_tellOperand 14 = .ok (.iconst 4, 1) := by decide +kernel
theorem dX3_tellOperand_15 : decode cX3_tellOperand 15 = .ok (.if_icmp .lt 4, 3) := by decide +kernel
theorem dX3_tellOperand_18 : decode cX3_tellOperand 18 = .ok (.return_, 1) := by decide +kernel
theorem dX3_tellOperand_19 : decode cX3_tellOperand 19 = .ok (.aload_n 0, 1) := by decide +kernel
theorem dX3_tellOperand_20 : decode cX3_tellOperand 20 = .ok (.getfield 37, 3) := by decide +kernel
theorem dX3_tellOperand_23 : decode cX3_tellOperand 23 = .ok (.aload_n 0, 1) := by decide +kernel
theorem dX3_tellOperand_24 : decode cX3_tellOperand 24 = .ok (.getfield 52, 3) := by decide +kernel
theorem dX3_tellOperand_27 : decode cX3_tellOperand 27 = .ok (.iconst 4, 1) := by decide +kernel
theorem dX3_tellOperand_28 : decode cX3_tellOperand 28 = .ok (.imul, 1) := by decide +kernel
theorem dX3_tellOperand_29 : decode cX3_tellOperand 29 = .ok (.iload_n 1, 1) := by decide +kernel
theorem dX3_tellOperand_30 : decode cX3_tellOperand 30 = .ok (.iadd, 1) := by decide +kernel
theorem dX3_tellOperand_31 : decode cX3_tellOperand 31 = .ok (.iload_n 2, 1) := by decide +kernel
theorem dX3_tellOperand_32 : decode cX3_tellOperand 32 = .ok (.iastore, 1) := by decide +kernel
theorem dX3_tellOperand_33 : decode cX3_tellOperand 33 = .ok (.aload_n 0, 1) := by decide +kernel
theorem dX3_tellOperand_34 : decode cX3_tellOperand 34 = .ok (.getfield 40, 3) := by decide +kernel
theorem dX3_tellOperand_37 : decode cX3_tellOperand 37 = .ok (.aload_n 0, 1) := by decide +kernel
theorem dX3_tellOperand_38 : decode cX3_tellOperand 38 = .ok (.getfield 52, 3) := by decide +kernel
theorem dX3_tellOperand_41 : decode cX3_tellOperand 41 = .ok (.iconst 4, 1) := by decide +kernel
theorem dX3_tellOperand_42 : decode cX3_tellOperand 42 = .ok (.imul, 1) := by decide +kernel
theorem dX3_tellOperand_43 : decode cX3_tellOperand 43 = .ok (.iload_n 1, 1) := by decide +kernel
theorem dX3_tellOperand_44 : decode cX3_tellOperand 44 = .ok (.iadd, 1) := by decide +kernel
theorem dX3_tellOperand_45 : decode cX3_tellOperand 45 = .ok (.iload_n 3, 1) := by decide +kernel
theorem dX3_tellOperand_46 : decode cX3_tellOperand 46 = .ok (.iastore, 1) := by decide +kernel
theorem dX3_tellOperand_47 : decode cX3_tellOperand 47 = .ok (.return_, 1) := by decide +kernel
theorem dX3_tellStep_0 : decode cX3_tellStep 0 = .ok (.aload_n 0, 1) := by decide +kernel
theorem dX3_tellStep_1 : decode cX3_tellStep 1 = .ok (.getfield 52, 3) := by decide +kernel
theorem dX3_tellStep_4 : decode cX3_tellStep 4 = .ok (.bipush 15, 2) := by decide +kernel
theorem dX3_tellStep_6 : decode cX3_tellStep 6 = .ok (.if_icmp .lt 5, 3) := by decide +kernel
theorem dX3_tellStep_9 : decode cX3_tellStep 9 = .ok (.iconst 0, 1) := by decide +kernel
theorem dX3_tellStep_10 : decode cX3_tellStep 10 = .ok (.ireturn, 1) := by decide +kernel
theorem dX3_tellStep_11 : decode cX3_tellStep 11 = .ok (.aload_n 0, 1) := by decide +kernel
theorem dX3_tellStep_12 : decode cX3_tellStep 12 = .ok (.getfield 52, 3) := by decide +kernel
theorem dX3_tellStep_15 : decode cX3_tellStep 15 = .ok (.istore 4, 2) := by decide +kernel
theorem dX3_tellStep_17 : decode cX3_tellStep 17 = .ok (.aload_n 0, 1) := by decide +kernel
theorem dX3_tellStep_18 : decode cX3_tellStep 18 = .ok (.getfield 9, 3) := by decide +kernel
theorem dX3_tellStep_21 : decode cX3_tellStep 21 = .ok (.iload 4, 2) := by decide +kernel
theorem dX3_tellStep_23 : decode cX3_tellStep 23 = .ok (.iload_n 2, 1) := by decide +kernel
theorem dX3_tellStep_24 : decode cX3_tellStep 24 = .ok (.iastore, 1) := by decide +kernel
theorem dX3_tellStep_25 : decode cX3_tellStep 25 = .ok (.aload_n 0, 1) := by decide +kernel
theorem dX3_tellStep_26 : decode cX3_tellStep 26 = .ok (.getfield 15, 3) := by decide +kernel
theorem dX3_tellStep_29 : decode cX3_tellStep 29 = .ok (.iload 4, 2) := by decide +kernel
theorem dX3_tellStep_31 : decode cX3_tellStep 31 = .ok (.iload_n 1, 1) := by decide +kernel
theorem dX3_tellStep_32 : decode cX3_tellStep 32 = .ok (.iastore, 1) := by decide +kernel
theorem dX3_tellStep_33 : decode cX3_tellStep 33 = .ok (.aload_n 0, 1) := by decide +kernel
theorem dX3_tellStep_34 : decode cX3_tellStep 34 = .ok (.getfield 18, 3) := by decide +kernel
theorem dX3_tellStep_37 : decode cX3_tellStep 37 = .ok (.iload 4, 2) := by decide +kernel
theorem dX3_tellStep_39 : decode cX3_tellStep 39 = .ok (.iconst 0, 1) := by decide +kernel
theorem dX3_tellStep_40 : decode cX3_tellStep 40 = .ok (.iastore, 1) := by decide +kernel
theorem dX3_tellStep_41 : decode cX3_tellStep 41 = .ok (.aload_n 0, 1) := by decide +kernel
theorem dX3_tellStep_42 : decode cX3_tellStep 42 = .ok (.getfield 21, 3) := by decide +kernel
theorem dX3_tellStep_45 : decode cX3_tellStep 45 = .ok (.iload 4, 2) := by decide +kernel
theorem dX3_tellStep_47 : decode cX3_tellStep 47 = .ok (.iconst 0, 1) := by decide +kernel
theorem dX3_tellStep_48 : decode cX3_tellStep 48 = .ok (.iastore, 1) := by decide +kernel
theorem dX3_tellStep_49 : decode cX3_tellStep 49 = .ok (.aload_n 0, 1) := by decide +kernel
theorem dX3_tellStep_50 : decode cX3_tellStep 50 = .ok (.getfield 24, 3) := by decide +kernel
theorem dX3_tellStep_53 : decode cX3_tellStep 53 = .ok (.iload 4, 2) := by decide +kernel
theorem dX3_tellStep_55 : decode cX3_tellStep 55 = .ok (.iload_n 3, 1) := by decide +kernel
theorem dX3_tellStep_56 : decode cX3_tellStep 56 = .ok (.iastore, 1) := by decide +kernel
theorem dX3_tellStep_57 : decode cX3_tellStep 57 = .ok (.aload_n 0, 1) := by decide +kernel
theorem dX3_tellStep_58 : decode cX3_tellStep 58 = .ok (.dup, 1) := by decide +kernel
theorem dX3_tellStep_59 : decode cX3_tellStep 59 = .ok (.getfield 52, 3) := by decide +kernel
theorem dX3_tellStep_62 : decode cX3_tellStep 62 = .ok (.iconst 1, 1) := by decide +kernel
theorem dX3_tellStep_63 : decode cX3_tellStep 63 = .ok (.iadd, 1) := by decide +kernel
theorem dX3_tellStep_64 : decode cX3_tellStep 64 = .ok (.putfield 52, 3) := by decide +kernel
theorem dX3_tellStep_67 : decode cX3_tellStep 67 = .ok (.aload_n 0, 1) := by decide +kernel
theorem dX3_tellStep_68 : decode cX3_tellStep 68 = .ok (.iload 4, 2) := by decide +kernel
theorem dX3_tellStep_70 : decode cX3_tellStep 70 = .ok (.invokevirtual 63, 3) := by decide +kernel
theorem dX3_tellStep_73 : decode cX3_tellStep 73 = .ok (.ireturn, 1) := by decide +kernel
theorem dX3_settleAll_0 : decode cX3_settleAll 0 = .ok (.iconst 0, 1) := by decide +kernel
theorem dX3_settleAll_1 : decode cX3_settleAll 1 = .ok (.istore_n 1, 1) := by decide +kernel
theorem dX3_settleAll_2 : decode cX3_settleAll 2 = .ok (.iload_n 1, 1) := by decide +kernel
theorem dX3_settleAll_3 : decode cX3_settleAll 3 = .ok (.aload_n 0, 1) := by decide +kernel
theorem dX3_settleAll_4 : decode cX3_settleAll 4 = .ok (.getfield 52, 3) := by decide +kernel
theorem dX3_settleAll_7 : decode cX3_settleAll 7 = .ok (.if_icmp .ge 19, 3) := by decide +kernel
theorem dX3_settleAll_10 : decode cX3_settleAll 10 = .ok (.aload_n 0, 1) := by decide +kernel
theorem dX3_settleAll_11 : decode cX3_settleAll 11 = .ok (.iload_n 1, 1) := by decide +kernel
theorem dX3_settleAll_12 : decode cX3_settleAll 12 = .ok (.invokevirtual 63, 3) := by decide +kernel
theorem dX3_settleAll_15 : decode cX3_settleAll 15 = .ok (.ifCond .ne 5, 3) := by decide +kernel
theorem dX3_settleAll_18 : decode cX3_settleAll 18 = .ok (.iconst 0, 1) := by decide +kernel
theorem dX3_settleAll_19 : decode cX3_settleAll 19 = .ok (.ireturn, 1) := by decide +kernel
theorem dX3_settleAll_20 : decode cX3_settleAll 20 = .ok (.iinc 1 1, 3) := by decide +kernel
theorem dX3_settleAll_23 : decode cX3_settleAll 23 = .ok (.goto (-21), 3) := by decide +kernel
theorem dX3_settleAll_26 : decode cX3_settleAll 26 = .ok (.iconst 1, 1) := by decide +kernel
theorem dX3_settleAll_27 : decode cX3_settleAll 27 = .ok (.ireturn, 1) := by decide +kernel
theorem dX3_settle_0 : decode cX3_settle 0 = .ok (.aload_n 0, 1) := by decide +kernel
theorem dX3_settle_1 : decode cX3_settle 1 = .ok (.getfield 34, 3) := by decide +kernel
theorem dX3_settle_4 : decode cX3_settle 4 = .ok (.iload_n 1, 1) := by decide +kernel
theorem dX3_settle_5 : decode cX3_settle 5 = .ok (.iconst 1, 1) := by decide +kernel
theorem dX3_settle_6 : decode cX3_settle 6 = .ok (.iload_n 1, 1) := by decide +kernel
theorem dX3_settle_7 : decode cX3_settle 7 = .ok (.ishl, 1) := by decide +kernel
theorem dX3_settle_8 : decode cX3_settle 8 = .ok (.iastore, 1) := by decide +kernel
theorem dX3_settle_9 : decode cX3_settle 9 = .ok (.aload_n 0, 1) := by decide +kernel
theorem dX3_settle_10 : decode cX3_settle 10 = .ok (.iload_n 1, 1) := by decide +kernel
theorem dX3_settle_11 : decode cX3_settle 11 = .ok (.invokevirtual 66, 3) := by decide +kernel
theorem dX3_settle_14 : decode cX3_settle 14 = .ok (.ifCond .eq 40, 3) := by decide +kernel
theorem dX3_settle_17 : decode cX3_settle 17 = .ok (.aload_n 0, 1) := by decide +kernel
theorem dX3_settle_18 : decode cX3_settle 18 = .ok (.getfield 27, 3) := by decide +kernel
theorem dX3_settle_21 : decode cX3_settle 21 = .ok (.iload_n 1, 1) := by decide +kernel
theorem dX3_settle_22 : decode cX3_settle 22 = .ok (.iconst 0, 1) := by decide +kernel
theorem dX3_settle_23 : decode cX3_settle 23 = .ok (.iastore, 1) := by decide +kernel
theorem dX3_settle_24 : decode cX3_settle 24 = .ok (.aload_n 0, 1) := by decide +kernel
theorem dX3_settle_25 : decode cX3_settle 25 = .ok (.getfield 30, 3) := by decide +kernel
theorem dX3_settle_28 : decode cX3_settle 28 = .ok (.iload_n 1, 1) := by decide +kernel
theorem dX3_settle_29 : decode cX3_settle 29 = .ok (.aload_n 0, 1) := by decide +kernel
theorem dX3_settle_30 : decode cX3_settle 30 = .ok (.getfield 18, 3) := by decide +kernel
theorem dX3_settle_33 : decode cX3_settle 33 = .ok (.iload_n 1, 1) := by decide +kernel
theorem dX3_settle_34 : decode cX3_settle 34 = .ok (.iaload, 1) := by decide +kernel
theorem dX3_settle_35 : decode cX3_settle 35 = .ok (.invokestatic 69, 3) := by decide +kernel
theorem dX3_settle_38 : decode cX3_settle 38 = .ok (.aload_n 0, 1) := by decide +kernel
theorem dX3_settle_39 : decode cX3_settle 39 = .ok (.getfield 21, 3) := by decide +kernel
theorem dX3_settle_42 : decode cX3_settle 42 = .ok (.iload_n 1, 1) := by decide +kernel
theorem dX3_settle_43 : decode cX3_settle 43 = .ok (.iaload, 1) := by decide +kernel
theorem dX3_settle_44 : decode cX3_settle 44 = .ok (.invokestatic 69, 3) := by decide +kernel
theorem dX3_settle_47 : decode cX3_settle 47 = .ok (.invokestatic 75, 3) := by decide +kernel
theorem dX3_settle_50 : decode cX3_settle 50 = .ok (.i2l, 1) := by decide +kernel
theorem dX3_settle_51 : decode cX3_settle 51 = .ok (.lastore, 1) := by decide +kernel
theorem dX3_settle_52 : decode cX3_settle 52 = .ok (.iconst 1, 1) := by decide +kernel
theorem dX3_settle_53 : decode cX3_settle 53 = .ok (.ireturn, 1) := by decide +kernel
theorem dX3_settle_54 : decode cX3_settle 54 = .ok (.iconst 0, 1) := by decide +kernel
theorem dX3_settle_55 : decode cX3_settle 55 = .ok (.istore_n 2, 1) := by decide +kernel
theorem dX3_settle_56 : decode cX3_settle 56 = .ok (.iload_n 2, 1) := by decide +kernel
theorem dX3_settle_57 : decode cX3_settle 57 = .ok (.aload_n 0, 1) := by decide +kernel
theorem dX3_settle_58 : decode cX3_settle 58 = .ok (.iload_n 1, 1) := by decide +kernel
theorem dX3_settle_59 : decode cX3_settle 59 = .ok (.invokevirtual 79, 3) := by decide +kernel
theorem dX3_settle_62 : decode cX3_settle 62 = .ok (.if_icmp .ge 43, 3) := by decide +kernel
theorem dX3_settle_65 : decode cX3_settle 65 = .ok (.aload_n 0, 1) := by decide +kernel
theorem dX3_settle_66 : decode cX3_settle 66 = .ok (.getfield 37, 3) := by decide +kernel
theorem dX3_settle_69 : decode cX3_settle 69 = .ok (.iload_n 1, 1) := by decide +kernel
theorem dX3_settle_70 : decode cX3_settle 70 = .ok (.iconst 4, 1) := by decide +kernel
theorem dX3_settle_71 : decode cX3_settle 71 = .ok (.imul, 1) := by decide +kernel
theorem dX3_settle_72 : decode cX3_settle 72 = .ok (.iload_n 2, 1) := by decide +kernel
theorem dX3_settle_73 : decode cX3_settle 73 = .ok (.iadd, 1) := by decide +kernel
theorem dX3_settle_74 : decode cX3_settle 74 = .ok (.iaload, 1) := by decide +kernel
theorem dX3_settle_75 : decode cX3_settle 75 = .ok (.istore_n 3, 1) := by decide +kernel
theorem dX3_settle_76 : decode cX3_settle 76 = .ok (.aload_n 0, 1) := by decide +kernel
theorem dX3_settle_77 : decode cX3_settle 77 = .ok (.getfield 34, 3) := by decide +kernel
theorem dX3_settle_80 : decode cX3_settle 80 = .ok (.iload_n 1, 1) := by decide +kernel
theorem dX3_settle_81 : decode cX3_settle 81 = .ok (.dup2, 1) := by decide +kernel
theorem dX3_settle_82 : decode cX3_settle 82 = .ok (.iaload, 1) := by decide +kernel
theorem dX3_settle_83 : decode cX3_settle 83 = .ok (.iload_n 3, 1) := by decide +kernel
theorem dX3_settle_84 : decode cX3_settle 84 = .ok (.ifCond .lt 12, 3) := by decide +kernel
theorem dX3_settle_87 : decode cX3_settle 87 = .ok (.aload_n 0, 1) := by decide +kernel
theorem dX3_settle_88 : decode cX3_settle 88 = .ok (.getfield 34, 3) := by decide +kernel
theorem dX3_settle_91 : decode cX3_settle 91 = .ok (.iload_n 3, 1) := by decide +kernel
theorem dX3_settle_92 : decode cX3_settle 92 = .ok (.iaload, 1) := by decide +kernel
theorem dX3_settle_93 : decode cX3_settle 93 = .ok (.goto 4, 3) := by decide +kernel
theorem dX3_settle_96 : decode cX3_settle 96 = .ok (.iconst 0, 1) := by decide +kernel
theorem dX3_settle_97 : decode cX3_settle 97 = .ok (.ior, 1) := by decide +kernel
theorem dX3_settle_98 : decode cX3_settle 98 = .ok (.iastore, 1) := by decide +kernel
theorem dX3_settle_99 : decode cX3_settle 99 = .ok (.iinc 2 1, 3) := by decide +kernel
theorem dX3_settle_102 : decode cX3_settle 102 = .ok (.goto (-46), 3) := by decide +kernel
theorem dX3_settle_105 : decode cX3_settle 105 = .ok (.aload_n 0, 1) := by decide +kernel
theorem dX3_settle_106 : decode cX3_settle 106 = .ok (.getfield 27, 3) := by decide +kernel
theorem dX3_settle_109 : decode cX3_settle 109 = .ok (.iload_n 1, 1) := by decide +kernel
theorem dX3_settle_110 : decode cX3_settle 110 = .ok (.aload_n 0, 1) := by decide +kernel
theorem dX3_settle_111 : decode cX3_settle 111 = .ok (.iload_n 1, 1) := by decide +kernel
theorem dX3_settle_112 : decode cX3_settle 112 = .ok (.invokevirtual 82, 3) := by decide +kernel
theorem dX3_settle_115 : decode cX3_settle 115 = .ok (.aload_n 0, 1) := by decide +kernel
theorem dX3_settle_116 : decode cX3_settle 116 = .ok (.getfield 24, 3) := by decide +kernel
theorem dX3_settle_119 : decode cX3_settle 119 = .ok (.iload_n 1, 1) := by decide +kernel
theorem dX3_settle_120 : decode cX3_settle 120 = .ok (.iaload, 1) := by decide +kernel
theorem dX3_settle_121 : decode cX3_settle 121 = .ok (.invokestatic 75, 3) := by decide +kernel
theorem dX3_settle_124 : decode cX3_settle 124 = .ok (.iastore, 1) := by decide +kernel
theorem dX3_settle_125 : decode cX3_settle 125 = .ok (.aload_n 0, 1) := by decide +kernel
theorem dX3_settle_126 : decode cX3_settle 126 = .ok (.getfield 30, 3) := by decide +kernel
theorem dX3_settle_129 : decode cX3_settle 129 = .ok (.iload_n 1, 1) := by decide +kernel
theorem dX3_settle_130 : decode cX3_settle 130 = .ok (.aload_n 0, 1) := by decide +kernel
theorem dX3_settle_131 : decode cX3_settle 131 = .ok (.iload_n 1, 1) := by decide +kernel
theorem dX3_settle_132 : decode cX3_settle 132 = .ok (.invokevirtual 85, 3) := by decide +kernel
theorem dX3_settle_135 : decode cX3_settle 135 = .ok (.lconst 1, 1) := by decide +kernel
theorem dX3_settle_136 : decode cX3_settle 136 = .ok (.aload_n 0, 1) := by decide +kernel
theorem dX3_settle_137 : decode cX3_settle 137 = .ok (.getfield 24, 3) := by decide +kernel
theorem dX3_settle_140 : decode cX3_settle 140 = .ok (.iload_n 1, 1) := by decide +kernel
theorem dX3_settle_141 : decode cX3_settle 141 = .ok (.iaload, 1) := by decide +kernel
theorem dX3_settle_142 : decode cX3_settle 142 = .ok (.lshl, 1) := by decide +kernel
theorem dX3_settle_143 : decode cX3_settle 143 = .ok (.ladd, 1) := by decide +kernel
theorem dX3_settle_144 : decode cX3_settle 144 = .ok (.lastore, 1) := by decide +kernel
theorem dX3_settle_145 : decode cX3_settle 145 = .ok (.aload_n 0, 1) := by decide +kernel
theorem dX3_settle_146 : decode cX3_settle 146 = .ok (.getfield 30, 3) := by decide +kernel
theorem dX3_settle_149 : decode cX3_settle 149 = .ok (.iload_n 1, 1) := by decide +kernel
theorem dX3_settle_150 : decode cX3_settle 150 = .ok (.laload, 1) := by decide +kernel
theorem dX3_settle_151 : decode cX3_settle 151 = .ok (.ldc2_w 89, 3) := by decide +kernel
theorem dX3_settle_154 : decode cX3_settle 154 = .ok (.lcmp, 1) := by decide +kernel
theorem dX3_settle_155 : decode cX3_settle 155 = .ok (.ifCond .gt 7, 3) := by decide +kernel
theorem dX3_settle_158 : decode cX3_settle 158 = .ok (.iconst 1, 1) := by decide +kernel
theorem dX3_settle_159 : decode cX3_settle 159 = .ok (.goto 4, 3) := by decide +kernel
theorem dX3_settle_162 : decode cX3_settle 162 = .ok (.iconst 0, 1) := by decide +kernel
theorem dX3_settle_163 : decode cX3_settle 163 = .ok (.ireturn, 1) := by decide +kernel
theorem dX3_reckonedFine_0 : decode cX3_reckonedFine 0 = .ok (.aload_n 0, 1) := by decide +kernel
theorem dX3_reckonedFine_1 : decode cX3_reckonedFine 1 = .ok (.getfield 9, 3) := by decide +kernel
theorem dX3_reckonedFine_4 : decode cX3_reckonedFine 4 = .ok (.iload_n 1, 1) := by decide +kernel
theorem dX3_reckonedFine_5 : decode cX3_reckonedFine 5 = .ok (.iaload, 1) := by decide +kernel
theorem dX3_reckonedFine_6 : decode cX3_reckonedFine 6 = .ok (.iconst 3, 1) := by decide +kernel
theorem dX3_reckonedFine_7 : decode cX3_reckonedFine 7 = .ok (.if_icmp .ne 19, 3) := by decide +kernel
theorem dX3_reckonedFine_10 : decode cX3_reckonedFine 10 = .ok (.aload_n 0, 1) := by decide +kernel
theorem dX3_reckonedFine_11 : decode cX3_reckonedFine 11 = .ok (.iload_n 1, 1) := by decide +kernel
theorem dX3_reckonedFine_12 : decode cX3_reckonedFine 12 = .ok (.iconst 2, 1) := by decide +kernel
theorem dX3_reckonedFine_13 : decode cX3_reckonedFine 13 = .ok (.invokevirtual 91, 3) := by decide +kernel
theorem dX3_reckonedFine_16 : decode cX3_reckonedFine 16 = .ok (.aload_n 0, 1) := by decide +kernel
theorem dX3_reckonedFine_17 : decode cX3_reckonedFine 17 = .ok (.iload_n 1, 1) := by decide +kernel
theorem dX3_reckonedFine_18 : decode cX3_reckonedFine 18 = .ok (.iconst 3, 1) := by decide +kernel
theorem dX3_reckonedFine_19 : decode cX3_reckonedFine 19 = .ok (.invokevirtual 91, 3) := by decide +kernel
theorem dX3_reckonedFine_22 : decode cX3_reckonedFine 22 = .ok (.invokestatic 94, 3) := by decide +kernel
theorem dX3_reckonedFine_25 : decode cX3_reckonedFine 25 = .ok (.ireturn, 1) := by decide +kernel
theorem dX3_reckonedFine_26 : decode cX3_reckonedFine 26 = .ok (.aload_n 0, 1) := by decide +kernel
theorem dX3_reckonedFine_27 : decode cX3_reckonedFine 27 = .ok (.iload_n 1, 1) := by decide +kernel
theorem dX3_reckonedFine_28 : decode cX3_reckonedFine 28 = .ok (.iconst 0, 1) := by decide +kernel
theorem dX3_reckonedFine_29 : decode cX3_reckonedFine 29 = .ok (.invokevirtual 91, 3) := by decide +kernel
theorem dX3_reckonedFine_32 : decode cX3_reckonedFine 32 = .ok (.istore_n 2, 1) := by decide +kernel
theorem dX3_reckonedFine_33 : decode cX3_reckonedFine 33 = .ok (.aload_n 0, 1) := by decide +kernel
theorem dX3_reckonedFine_34 : decode cX3_reckonedFine 34 = .ok (.iload_n 1, 1) := by decide +kernel
theorem dX3_reckonedFine_35 : decode cX3_reckonedFine 35 = .ok (.iconst 1, 1) := by decide +kernel
theorem dX3_reckonedFine_36 : decode cX3_reckonedFine 36 = .ok (.invokevirtual 91, 3) := by decide +kernel
theorem dX3_reckonedFine_39 : decode cX3_reckonedFine 39 = .ok (.istore_n 3, 1) := by decide +kernel
theorem dX3_reckonedFine_40 : decode cX3_reckonedFine 40 = .ok (.aload_n 0, 1) := by decide +kernel
theorem dX3_reckonedFine_41 : decode cX3_reckonedFine 41 = .ok (.getfield 9, 3) := by decide +kernel
theorem dX3_reckonedFine_44 : decode cX3_reckonedFine 44 = .ok (.iload_n 1, 1) := by decide +kernel
theorem dX3_reckonedFine_45 : decode cX3_reckonedFine 45 = .ok (.iaload, 1) := by decide +kernel
theorem dX3_reckonedFine_46 : decode cX3_reckonedFine 46 = .ok (.iconst 2, 1) := by decide +kernel
theorem dX3_reckonedFine_47 : decode cX3_reckonedFine 47 = .ok (.if_icmp .ne 14, 3) := by decide +kernel
theorem dX3_reckonedFine_50 : decode cX3_reckonedFine 50 = .ok (.iload_n 2, 1) := by decide +kernel
theorem dX3_reckonedFine_51 : decode cX3_reckonedFine 51 = .ok (.iload_n 3, 1) := by decide +kernel
theorem dX3_reckonedFine_52 : decode cX3_reckonedFine 52 = .ok (.iadd, 1) := by decide +kernel
theorem dX3_reckonedFine_53 : decode cX3_reckonedFine 53 = .ok (.bipush 8, 2) := by decide +kernel
theorem dX3_reckonedFine_55 : decode cX3_reckonedFine 55 = .ok (.invokestatic 94, 3) := by decide +kernel
theorem dX3_reckonedFine_58 : decode cX3_reckonedFine 58 = .ok (.goto 8, 3) := by decide +kernel
theorem dX3_reckonedFine_61 : decode cX3_reckonedFine 61 = .ok (.iload_n 2, 1) := by decide +kernel
theorem dX3_reckonedFine_62 : decode cX3_reckonedFine 62 = .ok (.iload_n 3, 1) := by decide +kernel
theorem dX3_reckonedFine_63 : decode cX3_reckonedFine 63 = .ok (.invokestatic 94, 3) := by decide +kernel
theorem dX3_reckonedFine_66 : decode cX3_reckonedFine 66 = .ok (.ireturn, 1) := by decide +kernel
theorem dX3_operandFine_0 : decode cX3_operandFine 0 = .ok (.aload_n 0, 1) := by decide +kernel
theorem dX3_operandFine_1 : decode cX3_operandFine 1 = .ok (.getfield 37, 3) := by decide +kernel
theorem dX3_operandFine_4 : decode cX3_operandFine 4 = .ok (.iload_n 1, 1) := by decide +kernel
theorem dX3_operandFine_5 : decode cX3_operandFine 5 = .ok (.iconst 4, 1) := by decide +kernel
theorem dX3_operandFine_6 : decode cX3_operandFine 6 = .ok (.imul, 1) := by decide +kernel
theorem dX3_operandFine_7 : decode cX3_operandFine 7 = .ok (.iload_n 2, 1) := by decide +kernel
theorem dX3_operandFine_8 : decode cX3_operandFine 8 = .ok (.iadd, 1) := by decide +kernel
theorem dX3_operandFine_9 : decode cX3_operandFine 9 = .ok (.iaload, 1) := by decide +kernel
theorem dX3_operandFine_10 : decode cX3_operandFine 10 = .ok (.istore_n 3, 1) := by decide +kernel
theorem dX3_operandFine_11 : decode cX3_operandFine 11 = .ok (.iload_n 3, 1) := by decide +kernel
theorem dX3_operandFine_12 : decode cX3_operandFine 12 = .ok (.ifCond .lt 10, 3) := by decide +kernel
theorem dX3_operandFine_15 : decode cX3_operandFine 15 = .ok (.aload_n 0, 1) := by decide +kernel
theorem dX3_operandFine_16 : decode cX3_operandFine 16 = .ok (.getfield 27, 3) := by decide +kernel
theorem dX3_operandFine_19 : decode cX3_operandFine 19 = .ok (.iload_n 3, 1) := by decide +kernel
theorem dX3_operandFine_20 : decode cX3_operandFine 20 = .ok (.iaload, 1) := by decide +kernel
theorem dX3_operandFine_21 : decode cX3_operandFine 21 = .ok (.ireturn, 1) := by decide +kernel
theorem dX3_operandFine_22 : decode cX3_operandFine 22 = .ok (.aload_n 0, 1) := by decide +kernel
theorem dX3_operandFine_23 : decode cX3_operandFine 23 = .ok (.getfield 40, 3) := by decide +kernel
theorem dX3_operandFine_26 : decode cX3_operandFine 26 = .ok (.iload_n 1, 1) := by decide +kernel
theorem dX3_operandFine_27 : decode cX3_operandFine 27 = .ok (.iconst 4, 1) := by decide +kernel
theorem dX3_operandFine_28 : decode cX3_operandFine 28 = .ok (.imul, 1) := by decide +kernel
theorem dX3_operandFine_29 : decode cX3_operandFine 29 = .ok (.iload_n 2, 1) := by decide +kernel
theorem dX3_operandFine_30 : decode cX3_operandFine 30 = .ok (.iadd, 1) := by decide +kernel
theorem dX3_operandFine_31 : decode cX3_operandFine 31 = .ok (.iaload, 1) := by decide +kernel
theorem dX3_operandFine_32 : decode cX3_operandFine 32 = .ok (.istore 4, 2) := by decide +kernel
theorem dX3_operandFine_34 : decode cX3_operandFine 34 = .ok (.iconst 0, 1) := by decide +kernel
theorem dX3_operandFine_35 : decode cX3_operandFine 35 = .ok (.istore 5, 2) := by decide +kernel
theorem dX3_operandFine_37 : decode cX3_operandFine 37 = .ok (.iload 5, 2) := by decide +kernel
theorem dX3_operandFine_39 : decode cX3_operandFine 39 = .ok (.bipush 8, 2) := by decide +kernel
theorem dX3_operandFine_41 : decode cX3_operandFine 41 = .ok (.if_icmp .ge 22, 3) := by decide +kernel
theorem dX3_operandFine_44 : decode cX3_operandFine 44 = .ok (.iload 4, 2) := by decide +kernel
theorem dX3_operandFine_46 : decode cX3_operandFine 46 = .ok (.iconst 2, 1) := by decide +kernel
theorem dX3_operandFine_47 : decode cX3_operandFine 47 = .ok (.irem, 1) := by decide +kernel
theorem dX3_operandFine_48 : decode cX3_operandFine 48 = .ok (.ifCond .ne 15, 3) := by decide +kernel
theorem dX3_operandFine_51 : decode cX3_operandFine 51 = .ok (.iload 4, 2) := by decide +kernel
theorem dX3_operandFine_53 : decode cX3_operandFine 53 = .ok (.iconst 2, 1) := by decide +kernel
theorem dX3_operandFine_54 : decode cX3_operandFine 54 = .ok (.idiv, 1) := by decide +kernel
theorem dX3_operandFine_55 : decode cX3_operandFine 55 = .ok (.istore 4, 2) := by decide +kernel
theorem dX3_operandFine_57 : decode cX3_operandFine 57 = .ok (.iinc 5 1, 3) := by decide +kernel
theorem dX3_operandFine_60 : decode cX3_operandFine 60 = .ok (.goto (-23), 3) := by decide +kernel
theorem dX3_operandFine_63 : decode cX3_operandFine 63 = .ok (.iload 5, 2) := by decide +kernel
theorem dX3_operandFine_65 : decode cX3_operandFine 65 = .ok (.ireturn, 1) := by decide +kernel
theorem dX3_reckonedWeight_0 : decode cX3_reckonedWeight 0 = .ok (.aload_n 0, 1) := by decide +kernel
theorem dX3_reckonedWeight_1 : decode cX3_reckonedWeight 1 = .ok (.getfield 9, 3) := by decide +kernel
theorem dX3_reckonedWeight_4 : decode cX3_reckonedWeight 4 = .ok (.iload_n 1, 1) := by decide +kernel
theorem dX3_reckonedWeight_5 : decode cX3_reckonedWeight 5 = .ok (.iaload, 1) := by decide +kernel
theorem dX3_reckonedWeight_6 : decode cX3_reckonedWeight 6 = .ok (.iconst 3, 1) := by decide +kernel
theorem dX3_reckonedWeight_7 : decode cX3_reckonedWeight 7 = .ok (.if_icmp .ne 21, 3) := by decide +kernel
theorem dX3_reckonedWeight_10 : decode cX3_reckonedWeight 10 = .ok (.ldc2_w 97, 3) := by decide +kernel
theorem dX3_reckonedWeight_13 : decode cX3_reckonedWeight 13 = .ok (.aload_n 0, 1) := by decide +kernel
theorem dX3_reckonedWeight_14 : decode cX3_reckonedWeight 14 = .ok (.iload_n 1, 1) := by decide +kernel
theorem dX3_reckonedWeight_15 : decode cX3_reckonedWeight 15 = .ok (.iconst 2, 1) := by decide +kernel
theorem dX3_reckonedWeight_16 : decode cX3_reckonedWeight 16 = .ok (.invokevirtual 99, 3) := by decide +kernel
theorem dX3_reckonedWeight_19 : decode cX3_reckonedWeight 19 = .ok (.aload_n 0, 1) := by decide +kernel
theorem dX3_reckonedWeight_20 : decode cX3_reckonedWeight 20 = .ok (.iload_n 1, 1) := by decide +kernel
theorem dX3_reckonedWeight_21 : decode cX3_reckonedWeight 21 = .ok (.iconst 3, 1) := by decide +kernel
theorem dX3_reckonedWeight_22 : decode cX3_reckonedWeight 22 = .ok (.invokevirtual 99, 3) := by decide +kernel
theorem dX3_reckonedWeight_25 : decode cX3_reckonedWeight 25 = .ok (.ladd, 1) := by decide +kernel
theorem dX3_reckonedWeight_26 : decode cX3_reckonedWeight 26 = .ok (.lmul, 1) := by decide +kernel
theorem dX3_reckonedWeight_27 : decode cX3_reckonedWeight 27 = .ok (.lreturn, 1) := by decide +kernel
theorem dX3_reckonedWeight_28 : decode cX3_reckonedWeight 28 = .ok (.aload_n 0, 1) := by decide +kernel
theorem dX3_reckonedWeight_29 : decode cX3_reckonedWeight 29 = .ok (.iload_n 1, 1) := by decide +kernel
theorem dX3_reckonedWeight_30 : decode cX3_reckonedWeight 30 = .ok (.iconst 0, 1) := by decide +kernel
theorem dX3_reckonedWeight_31 : decode cX3_reckonedWeight 31 = .ok (.invokevirtual 99, 3) := by decide +kernel
theorem dX3_reckonedWeight_34 : decode cX3_reckonedWeight 34 = .ok (.lstore_n 2, 1) := by decide +kernel
theorem dX3_reckonedWeight_35 : decode cX3_reckonedWeight 35 = .ok (.aload_n 0, 1) := by decide +kernel
theorem dX3_reckonedWeight_36 : decode cX3_reckonedWeight 36 = .ok (.iload_n 1, 1) := by decide +kernel
theorem dX3_reckonedWeight_37 : decode cX3_reckonedWeight 37 = .ok (.iconst 1, 1) := by decide +kernel
theorem dX3_reckonedWeight_38 : decode cX3_reckonedWeight 38 = .ok (.invokevirtual 99, 3) := by decide +kernel
theorem dX3_reckonedWeight_41 : decode cX3_reckonedWeight 41 = .ok (.lstore 4, 2) := by decide +kernel
theorem dX3_reckonedWeight_43 : decode cX3_reckonedWeight 43 = .ok (.aload_n 0, 1) := by decide +kernel
theorem dX3_reckonedWeight_44 : decode cX3_reckonedWeight 44 = .ok (.getfield 9, 3) := by decide +kernel
theorem dX3_reckonedWeight_47 : decode cX3_reckonedWeight 47 = .ok (.iload_n 1, 1) := by decide +kernel
theorem dX3_reckonedWeight_48 : decode cX3_reckonedWeight 48 = .ok (.iaload, 1) := by decide +kernel
theorem dX3_reckonedWeight_49 : decode cX3_reckonedWeight 49 = .ok (.iconst 2, 1) := by decide +kernel
theorem dX3_reckonedWeight_50 : decode cX3_reckonedWeight 50 = .ok (.if_icmp .ne 10, 3) := by decide +kernel
theorem dX3_reckonedWeight_53 : decode cX3_reckonedWeight 53 = .ok (.lload_n 2, 1) := by decide +kernel
theorem dX3_reckonedWeight_54 : decode cX3_reckonedWeight 54 = .ok (.lload 4, 2) := by decide +kernel
theorem dX3_reckonedWeight_56 : decode cX3_reckonedWeight 56 = .ok (.lmul, 1) := by decide +kernel
theorem dX3_reckonedWeight_57 : decode cX3_reckonedWeight 57 = .ok (.goto 7, 3) := by decide +kernel
theorem dX3_reckonedWeight_60 : decode cX3_reckonedWeight 60 = .ok (.lload_n 2, 1) := by decide +kernel
theorem dX3_reckonedWeight_61 : decode cX3_reckonedWeight 61 = .ok (.lload 4, 2) := by decide +kernel
theorem dX3_reckonedWeight_63 : decode cX3_reckonedWeight 63 = .ok (.ladd, 1) := by decide +kernel
theorem dX3_reckonedWeight_64 : decode cX3_reckonedWeight 64 = .ok (.lreturn, 1) := by decide +kernel
theorem dX3_operandWeight_0 : decode cX3_operandWeight 0 = .ok (.aload_n 0, 1) := by decide +kernel
theorem dX3_operandWeight_1 : decode cX3_operandWeight 1 = .ok (.getfield 37, 3) := by decide +kernel
theorem dX3_operandWeight_4 : decode cX3_operandWeight 4 = .ok (.iload_n 1, 1) := by decide +kernel
theorem dX3_operandWeight_5 : decode cX3_operandWeight 5 = .ok (.iconst 4, 1) := by decide +kernel
theorem dX3_operandWeight_6 : decode cX3_operandWeight 6 = .ok (.imul, 1) := by decide +kernel
theorem dX3_operandWeight_7 : decode cX3_operandWeight 7 = .ok (.iload_n 2, 1) := by decide +kernel
theorem dX3_operandWeight_8 : decode cX3_operandWeight 8 = .ok (.iadd, 1) := by decide +kernel
theorem dX3_operandWeight_9 : decode cX3_operandWeight 9 = .ok (.iaload, 1) := by decide +kernel
theorem dX3_operandWeight_10 : decode cX3_operandWeight 10 = .ok (.istore_n 3, 1) := by decide +kernel
theorem dX3_operandWeight_11 : decode cX3_operandWeight 11 = .ok (.iload_n 3, 1) := by decide +kernel
theorem dX3_operandWeight_12 : decode cX3_operandWeight 12 = .ok (.ifCond .lt 10, 3) := by decide +kernel
theorem dX3_operandWeight_15 : decode cX3_operandWeight 15 = .ok (.aload_n 0, 1) := by decide +kernel
theorem dX3_operandWeight_16 : decode cX3_operandWeight 16 = .ok (.getfield 30, 3) := by decide +kernel
theorem dX3_operandWeight_19 : decode cX3_operandWeight 19 = .ok (.iload_n 3, 1) := by decide +kernel
theorem dX3_operandWeight_20 : decode cX3_operandWeight 20 = .ok (.laload, 1) := by decide +kernel
theorem dX3_operandWeight_21 : decode cX3_operandWeight 21 = .ok (.lreturn, 1) := by decide +kernel
theorem dX3_operandWeight_22 : decode cX3_operandWeight 22 = .ok (.aload_n 0, 1) := by decide +kernel
theorem dX3_operandWeight_23 : decode cX3_operandWeight 23 = .ok (.getfield 40, 3) := by decide +kernel
theorem dX3_operandWeight_26 : decode cX3_operandWeight 26 = .ok (.iload_n 1, 1) := by decide +kernel
theorem dX3_operandWeight_27 : decode cX3_operandWeight 27 = .ok (.iconst 4, 1) := by decide +kernel
theorem dX3_operandWeight_28 : decode cX3_operandWeight 28 = .ok (.imul, 1) := by decide +kernel
theorem dX3_operandWeight_29 : decode cX3_operandWeight 29 = .ok (.iload_n 2, 1) := by decide +kernel
theorem dX3_operandWeight_30 : decode cX3_operandWeight 30 = .ok (.iadd, 1) := by decide +kernel
theorem dX3_operandWeight_31 : decode cX3_operandWeight 31 = .ok (.iaload, 1) := by decide +kernel
theorem dX3_operandWeight_32 : decode cX3_operandWeight 32 = .ok (.istore 4, 2) := by decide +kernel
theorem dX3_operandWeight_34 : decode cX3_operandWeight 34 = .ok (.iload 4, 2) := by decide +kernel
theorem dX3_operandWeight_36 : decode cX3_operandWeight 36 = .ok (.ifCond .ge 10, 3) := by decide +kernel
theorem dX3_operandWeight_39 : decode cX3_operandWeight 39 = .ok (.iload 4, 2) := by decide +kernel
theorem dX3_operandWeight_41 : decode cX3_operandWeight 41 = .ok (.ineg, 1) := by decide +kernel
theorem dX3_operandWeight_42 : decode cX3_operandWeight 42 = .ok (.i2l, 1) := by decide +kernel
theorem dX3_operandWeight_43 : decode cX3_operandWeight 43 = .ok (.goto 6, 3) := by decide +kernel
theorem dX3_operandWeight_46 : decode cX3_operandWeight 46 = .ok (.iload 4, 2) := by decide +kernel
theorem dX3_operandWeight_48 : decode cX3_operandWeight 48 = .ok (.i2l, 1) := by decide +kernel
theorem dX3_operandWeight_49 : decode cX3_operandWeight 49 = .ok (.lreturn, 1) := by decide +kernel
theorem dX3_operandIn_0 : decode cX3_operandIn 0 = .ok (.aload_n 0, 1) := by decide +kernel
theorem dX3_operandIn_1 : decode cX3_operandIn 1 = .ok (.getfield 37, 3) := by decide +kernel
theorem dX3_operandIn_4 : decode cX3_operandIn 4 = .ok (.iload_n 2, 1) := by decide +kernel
theorem dX3_operandIn_5 : decode cX3_operandIn 5 = .ok (.iconst 4, 1) := by decide +kernel
theorem dX3_operandIn_6 : decode cX3_operandIn 6 = .ok (.imul, 1) := by decide +kernel
theorem dX3_operandIn_7 : decode cX3_operandIn 7 = .ok (.iload_n 3, 1) := by decide +kernel
theorem dX3_operandIn_8 : decode cX3_operandIn 8 = .ok (.iadd, 1) := by decide +kernel
theorem dX3_operandIn_9 : decode cX3_operandIn 9 = .ok (.iaload, 1) := by decide +kernel
theorem dX3_operandIn_10 : decode cX3_operandIn 10 = .ok (.istore 4, 2) := by decide +kernel
theorem dX3_operandIn_12 : decode cX3_operandIn 12 = .ok (.iload 4, 2) := by decide +kernel
theorem dX3_operandIn_14 : decode cX3_operandIn 14 = .ok (.ifCond .lt 10, 3) := by decide +kernel
theorem dX3_operandIn_17 : decode cX3_operandIn 17 = .ok (.aload_n 1, 1) := by decide +kernel
theorem dX3_operandIn_18 : decode cX3_operandIn 18 = .ok (.iload 4, 2) := by decide +kernel
theorem dX3_operandIn_20 : decode cX3_operandIn 20 = .ok (.laload, 1) := by decide +kernel
theorem dX3_operandIn_21 : decode cX3_operandIn 21 = .ok (.goto 14, 3) := by decide +kernel
theorem dX3_operandIn_24 : decode cX3_operandIn 24 = .ok (.aload_n 0, 1) := by decide +kernel
theorem dX3_operandIn_25 : decode cX3_operandIn 25 = .ok (.getfield 40, 3) := by decide +kernel
theorem dX3_operandIn_28 : decode cX3_operandIn 28 = .ok (.iload_n 2, 1) := by decide +kernel
theorem dX3_operandIn_29 : decode cX3_operandIn 29 = .ok (.iconst 4, 1) := by decide +kernel
theorem dX3_operandIn_30 : decode cX3_operandIn 30 = .ok (.imul, 1) := by decide +kernel
theorem dX3_operandIn_31 : decode cX3_operandIn 31 = .ok (.iload_n 3, 1) := by decide +kernel
theorem dX3_operandIn_32 : decode cX3_operandIn 32 = .ok (.iadd, 1) := by decide +kernel
theorem dX3_operandIn_33 : decode cX3_operandIn 33 = .ok (.iaload, 1) := by decide +kernel
theorem dX3_operandIn_34 : decode cX3_operandIn 34 = .ok (.i2l, 1) := by decide +kernel
theorem dX3_operandIn_35 : decode cX3_operandIn 35 = .ok (.lreturn, 1) := by decide +kernel
theorem dX3_points_0 : decode cX3_points 0 = .ok (.lconst 1, 1) := by decide +kernel
theorem dX3_points_1 : decode cX3_points 1 = .ok (.lstore_n 1, 1) := by decide +kernel
theorem dX3_points_2 : decode cX3_points 2 = .ok (.iconst 0, 1) := by decide +kernel
theorem dX3_points_3 : decode cX3_points 3 = .ok (.istore_n 3, 1) := by decide +kernel
theorem dX3_points_4 : decode cX3_points 4 = .ok (.iload_n 3, 1) := by decide +kernel
theorem dX3_points_5 : decode cX3_points 5 = .ok (.aload_n 0, 1) := by decide +kernel
theorem dX3_points_6 : decode cX3_points 6 = .ok (.getfield 56, 3) := by decide +kernel
theorem dX3_points_9 : decode cX3_points 9 = .ok (.if_icmp .ge 38, 3) := by decide +kernel
theorem dX3_points_12 : decode cX3_points 12 = .ok (.aload_n 0, 1) := by decide +kernel
theorem dX3_points_13 : decode cX3_points 13 = .ok (.getfield 43, 3) := by decide +kernel
theorem dX3_points_16 : decode cX3_points 16 = .ok (.iload_n 3, 1) := by decide +kernel
theorem dX3_points_17 : decode cX3_points 17 = .ok (.iaload, 1) := by decide +kernel
theorem dX3_points_18 : decode cX3_points 18 = .ok (.istore 4, 2) := by decide +kernel
theorem dX3_points_20 : decode cX3_points 20 = .ok (.lload_n 1, 1) := by decide +kernel
theorem dX3_points_21 : decode cX3_points 21 = .ok (.aload_n 0, 1) := by decide +kernel
theorem dX3_points_22 : decode cX3_points 22 = .ok (.getfield 21, 3) := by decide +kernel
theorem dX3_points_25 : decode cX3_points 25 = .ok (.iload 4, 2) := by decide +kernel
theorem dX3_points_27 : decode cX3_points 27 = .ok (.iaload, 1) := by decide +kernel
theorem dX3_points_28 : decode cX3_points 28 = .ok (.aload_n 0, 1) := by decide +kernel
theorem dX3_points_29 : decode cX3_points 29 = .ok (.getfield 18, 3) := by decide +kernel
theorem dX3_points_32 : decode cX3_points 32 = .ok (.iload 4, 2) := by decide +kernel
theorem dX3_points_34 : decode cX3_points 34 = .ok (.iaload, 1) := by decide +kernel
theorem dX3_points_35 : decode cX3_points 35 = .ok (.isub, 1) := by decide +kernel
theorem dX3_points_36 : decode cX3_points 36 = .ok (.iconst 1, 1) := by decide +kernel
theorem dX3_points_37 : decode cX3_points 37 = .ok (.iadd, 1) := by decide +kernel
theorem dX3_points_38 : decode cX3_points 38 = .ok (.i2l, 1) := by decide +kernel
theorem dX3_points_39 : decode cX3_points 39 = .ok (.lmul, 1) := by decide +kernel
theorem dX3_points_40 : decode cX3_points 40 = .ok (.lstore_n 1, 1) := by decide +kernel
theorem dX3_points_41 : decode cX3_points 41 = .ok (.iinc 3 1, 3) := by decide +kernel
theorem dX3_points_44 : decode cX3_points 44 = .ok (.goto (-40), 3) := by decide +kernel
theorem dX3_points_47 : decode cX3_points 47 = .ok (.lload_n 1, 1) := by decide +kernel
theorem dX3_points_48 : decode cX3_points 48 = .ok (.lreturn, 1) := by decide +kernel
theorem dX4_init_0 : decode cX4_init 0 = .ok (.aload_n 0, 1) := by decide +kernel
theorem dX4_init_1 : decode cX4_init 1 = .ok (.invokespecial 3, 3) := by decide +kernel
theorem dX4_init_4 : decode cX4_init 4 = .ok (.return_, 1) := by decide +kernel
theorem dX4_read_0 : decode cX4_read 0 = .ok (.aload_n 0, 1) := by decide +kernel
theorem dX4_read_1 : decode cX4_read 1 = .ok (.aload_n 1, 1) := by decide +kernel
theorem dX4_read_2 : decode cX4_read 2 = .ok (.putfield 9, 3) := by decide +kernel
theorem dX4_read_5 : decode cX4_read 5 = .ok (.aload_n 0, 1) := by decide +kernel
theorem dX4_read_6 : decode cX4_read 6 = .ok (.iload_n 2, 1) := by decide +kernel
theorem dX4_read_7 : decode cX4_read 7 = .ok (.putfield 15, 3) := by decide +kernel
theorem dX4_read_10 : decode cX4_read 10 = .ok (.aload_n 0, 1) := by decide +kernel
theorem dX4_read_11 : decode cX4_read 11 = .ok (.aload_n 3, 1) := by decide +kernel
theorem dX4_read_12 : decode cX4_read 12 = .ok (.putfield 19, 3) := by decide +kernel
theorem dX4_read_15 : decode cX4_read 15 = .ok (.aload_n 0, 1) := by decide +kernel
theorem dX4_read_16 : decode cX4_read 16 = .ok (.getfield 19, 3) := by decide +kernel
theorem dX4_read_19 : decode cX4_read 19 = .ok (.iconst 0, 1) := by decide +kernel
theorem dX4_read_20 : decode cX4_read 20 = .ok (.putfield 23, 3) := by decide +kernel
theorem dX4_read_23 : decode cX4_read 23 = .ok (.aload_n 0, 1) := by decide +kernel
theorem dX4_read_24 : decode cX4_read 24 = .ok (.getfield 19, 3) := by decide +kernel
theorem dX4_read_27 : decode cX4_read 27 = .ok (.iconst 0, 1) := by decide +kernel
theorem dX4_read_28 : decode cX4_read 28 = .ok (.putfield 28, 3) := by decide +kernel
theorem dX4_read_31 : decode cX4_read 31 = .ok (.aload_n 0, 1) := by decide +kernel
theorem dX4_read_32 : decode cX4_read 32 = .ok (.iconst 0, 1) := by decide +kernel
theorem dX4_read_33 : decode cX4_read 33 = .ok (.putfield 31, 3) := by decide +kernel
theorem dX4_read_36 : decode cX4_read 36 = .ok (.aload_n 0, 1) := by decide +kernel
theorem dX4_read_37 : decode cX4_read 37 = .ok (.iconst (-1), 1) := by decide +kernel
theorem dX4_read_38 : decode cX4_read 38 = .ok (.putfield 34, 3) := by decide +kernel
theorem dX4_read_41 : decode cX4_read 41 = .ok (.aload_n 0, 1) := by decide +kernel
theorem dX4_read_42 : decode cX4_read 42 = .ok (.iconst 0, 1) := by decide +kernel
theorem dX4_read_43 : decode cX4_read 43 = .ok (.putfield 37, 3) := by decide +kernel
theorem dX4_read_46 : decode cX4_read 46 = .ok (.aload_n 0, 1) := by decide +kernel
theorem dX4_read_47 : decode cX4_read 47 = .ok (.invokevirtual 40, 3) := by decide +kernel
theorem dX4_read_50 : decode cX4_read 50 = .ok (.iconst 0, 1) := by decide +kernel
theorem dX4_read_51 : decode cX4_read 51 = .ok (.istore 4, 2) := by decide +kernel
theorem dX4_read_53 : decode cX4_read 53 = .ok (.iload 4, 2) := by decide +kernel
theorem dX4_read_55 : decode cX4_read 55 = .ok (.sipush 500, 3) := by decide +kernel
theorem dX4_read_58 : decode cX4_read 58 = .ok (.if_icmp .gt 65, 3) := by decide +kernel
theorem dX4_read_61 : decode cX4_read 61 = .ok (.aload_n 0, 1) := by decide +kernel
theorem dX4_read_62 : decode cX4_read 62 = .ok (.invokevirtual 43, 3) := by decide +kernel
theorem dX4_read_65 : decode cX4_read 65 = .ok (.ifCond .ne 5, 3) := by decide +kernel
theorem dX4_read_68 : decode cX4_read 68 = .ok (.iconst 0, 1) := by decide +kernel
theorem dX4_read_69 : decode cX4_read 69 = .ok (.ireturn, 1) := by decide +kernel
theorem dX4_read_70 : decode cX4_read 70 = .ok (.aload_n 0, 1) := by decide +kernel
theorem dX4_read_71 : decode cX4_read 71 = .ok (.getfield 47, 3) := by decide +kernel
theorem dX4_read_74 : decode cX4_read 74 = .ok (.ifCond .ne 32, 3) := by decide +kernel
theorem dX4_read_77 : decode cX4_read 77 = .ok (.aload_n 0, 1) := by decide +kernel
theorem dX4_read_78 : decode cX4_read 78 = .ok (.getfield 19, 3) := by decide +kernel
theorem dX4_read_81 : decode cX4_read 81 = .ok (.invokevirtual 50, 3) := by decide +kernel
theorem dX4_read_84 : decode cX4_read 84 = .ok (.ifCond .gt 16, 3) := by decide +kernel
theorem dX4_read_87 : decode cX4_read 87 = .ok (.aload_n 0, 1) := by decide +kernel
theorem dX4_read_88 : decode cX4_read 88 = .ok (.bipush 6, 2) := by decide +kernel
theorem dX4_read_90 : decode cX4_read 90 = .ok (.aload_n 0, 1) := by decide +kernel
theorem dX4_read_91 : decode cX4_read 91 = .ok (.getfield 54, 3) := by decide +kernel
theorem dX4_read_94 : decode cX4_read 94 = .ok (.invokevirtual 57, 3) := by decide +kernel
theorem dX4_read_97 : decode cX4_read 97 = .ok (.ifCond .eq 7, 3) := by decide +kernel
theorem dX4_read_100 : decode cX4_read 100 = .ok (.iconst 1, 1) := by decide +kernel
theorem dX4_read_101 : decode cX4_read 101 = .ok (.goto 4, 3) := by decide +kernel
theorem dX4_read_104 : decode cX4_read 104 = .ok (.iconst 0, 1) := by decide +kernel
theorem dX4_read_105 : decode cX4_read 105 = .ok (.ireturn, 1) := by decide +kernel
theorem dX4_read_106 : decode cX4_read 106 = .ok (.aload_n 0, 1) := by decide +kernel
theorem dX4_read_107 : decode cX4_read 107 = .ok (.bipush 59, 2) := by decide +kernel
theorem dX4_read_109 : decode cX4_read 109 = .ok (.invokevirtual 61, 3) := by decide +kernel
theorem dX4_read_112 : decode cX4_read 112 = .ok (.ifCond .ne 5, 3) := by decide +kernel
theorem dX4_read_115 : decode cX4_read 115 = .ok (.iconst 0, 1) := by decide +kernel
theorem dX4_read_116 : decode cX4_read 116 = .ok (.ireturn, 1) := by decide +kernel
theorem dX4_read_117 : decode cX4_read 117 = .ok (.iinc 4 1, 3) := by decide +kernel
theorem dX4_read_120 : decode cX4_read 120 = .ok (.goto (-67), 3) := by decide +kernel
theorem dX4_read_123 : decode cX4_read 123 = .ok (.aload_n 0, 1) := by decide +kernel
theorem dX4_read_124 : decode cX4_read 124 = .ok (.iconst 1, 1) := by decide +kernel
theorem dX4_read_125 : decode cX4_read 125 = .ok (.aload_n 0, 1) := by decide +kernel
theorem dX4_read_126 : decode cX4_read 126 = .ok (.getfield 54, 3) := by decide +kernel
theorem dX4_read_129 : decode cX4_read 129 = .ok (.invokevirtual 57, 3) := by decide +kernel
theorem dX4_read_132 : decode cX4_read 132 = .ok (.ireturn, 1) := by decide +kernel
theorem dX4_fail_0 : decode cX4_fail 0 = .ok (.aload_n 0, 1) := by decide +kernel
theorem dX4_fail_1 : decode cX4_fail 1 = .ok (.iload_n 1, 1) := by decide +kernel
theorem dX4_fail_2 : decode cX4_fail 2 = .ok (.putfield 31, 3) := by decide +kernel
theorem dX4_fail_5 : decode cX4_fail 5 = .ok (.aload_n 0, 1) := by decide +kernel
theorem dX4_fail_6 : decode cX4_fail 6 = .ok (.iload_n 2, 1) := by decide +kernel
theorem dX4_fail_7 : decode cX4_fail 7 = .ok (.putfield 34, 3) := by decide +kernel
theorem dX4_fail_10 : decode cX4_fail 10 = .ok (.iconst 0, 1) := by decide +kernel
theorem dX4_fail_11 : decode cX4_fail 11 = .ok (.ireturn, 1) := by decide +kernel
theorem dX4_readLine_0 : decode cX4_readLine 0 = .ok (.aload_n 0, 1) := by decide +kernel
theorem dX4_readLine_1 : decode cX4_readLine 1 = .ok (.ldc 65, 2) := by decide +kernel
theorem dX4_readLine_3 : decode cX4_readLine 3 = .ok (.invokevirtual 67, 3) := by decide +kernel
theorem dX4_readLine_6 : decode cX4_readLine 6 = .ok (.ifCond .eq 33, 3) := by decide +kernel
theorem dX4_readLine_9 : decode cX4_readLine 9 = .ok (.aload_n 0, 1) := by decide +kernel
theorem dX4_readLine_10 : decode cX4_readLine 10 = .ok (.getfield 19, 3) := by decide +kernel
theorem dX4_readLine_13 : decode cX4_readLine 13 = .ok (.getfield 28, 3) := by decide +kernel
theorem dX4_readLine_16 : decode cX4_readLine 16 = .ok (.iconst 3, 1) := by decide +kernel
theorem dX4_readLine_17 : decode cX4_readLine 17 = .ok (.if_icmp .lt 13, 3) := by decide +kernel
theorem dX4_readLine_20 : decode cX4_readLine 20 = .ok (.aload_n 0, 1) := by decide +kernel
theorem dX4_readLine_21 : decode cX4_readLine 21 = .ok (.iconst 4, 1) := by decide +kernel
theorem dX4_readLine_22 : decode cX4_readLine 22 = .ok (.aload_n 0, 1) := by decide +kernel
theorem dX4_readLine_23 : decode cX4_readLine 23 = .ok (.getfield 54, 3) := by decide +kernel
theorem dX4_readLine_26 : decode cX4_readLine 26 = .ok (.invokevirtual 57, 3) := by decide +kernel
theorem dX4_readLine_29 : decode cX4_readLine 29 = .ok (.ireturn, 1) := by decide +kernel
theorem dX4_readLine_30 : decode cX4_readLine 30 = .ok (.aload_n 0, 1) := by decide +kernel
theorem dX4_readLine_31 : decode cX4_readLine 31 = .ok (.invokevirtual 40, 3) := by decide +kernel
theorem dX4_readLine_34 : decode cX4_readLine 34 = .ok (.aload_n 0, 1) := by decide +kernel
theorem dX4_readLine_35 : decode cX4_readLine 35 = .ok (.invokevirtual 71, 3) := by decide +kernel
theorem dX4_readLine_38 : decode cX4_readLine 38 = .ok (.ireturn, 1) := by decide +kernel
theorem dX4_readLine_39 : decode cX4_readLine 39 = .ok (.aload_n 0, 1) := by decide +kernel
theorem dX4_readLine_40 : decode cX4_readLine 40 = .ok (.ldc 74, 2) := by decide +kernel
theorem dX4_readLine_42 : decode cX4_readLine 42 = .ok (.invokevirtual 67, 3) := by decide +kernel
theorem dX4_readLine_45 : decode cX4_readLine 45 = .ok (.ifCond .ne 13, 3) := by decide +kernel
theorem dX4_readLine_48 : decode cX4_readLine 48 = .ok (.aload_n 0, 1) := by decide +kernel
theorem dX4_readLine_49 : decode cX4_readLine 49 = .ok (.iconst 1, 1) := by decide +kernel
theorem dX4_readLine_50 : decode cX4_readLine 50 = .ok (.aload_n 0, 1) := by decide +kernel
theorem dX4_readLine_51 : decode cX4_readLine 51 = .ok (.getfield 54, 3) := by decide +kernel
theorem dX4_readLine_54 : decode cX4_readLine 54 = .ok (.invokevirtual 57, 3) := by decide +kernel
theorem dX4_readLine_57 : decode cX4_readLine 57 = .ok (.ireturn, 1) := by decide +kernel
theorem dX4_readLine_58 : decode cX4_readLine 58 = .ok (.aload_n 0, 1) := by decide +kernel
theorem dX4_readLine_59 : decode cX4_readLine 59 = .ok (.getfield 19, 3) := by decide +kernel
theorem dX4_readLine_62 : decode cX4_readLine 62 = .ok (.invokevirtual 50, 3) := by decide +kernel
theorem dX4_readLine_65 : decode cX4_readLine 65 = .ok (.bipush 12, 2) := by decide +kernel
theorem dX4_readLine_67 : decode cX4_readLine 67 = .ok (.if_icmp .lt 13, 3) := by decide +kernel
theorem dX4_readLine_70 : decode cX4_readLine 70 = .ok (.aload_n 0, 1) := by decide +kernel
theorem dX4_readLine_71 : decode cX4_readLine 71 = .ok (.iconst 4, 1) := by decide +kernel
theorem dX4_readLine_72 : decode cX4_readLine 72 = .ok (.aload_n 0, 1) := by decide +kernel
theorem dX4_readLine_73 : decode cX4_readLine 73 = .ok (.getfield 54, 3) := by decide +kernel
theorem dX4_readLine_76 : decode cX4_readLine 76 = .ok (.invokevirtual 57, 3) := by decide +kernel
theorem dX4_readLine_79 : decode cX4_readLine 79 = .ok (.ireturn, 1) := by decide +kernel
theorem dX4_readLine_80 : decode cX4_readLine 80 = .ok (.aload_n 0, 1) := by decide +kernel
theorem dX4_readLine_81 : decode cX4_readLine 81 = .ok (.invokevirtual 40, 3) := by decide +kernel
theorem dX4_readLine_84 : decode cX4_readLine 84 = .ok (.aload_n 0, 1) := by decide +kernel
theorem dX4_readLine_85 : decode cX4_readLine 85 = .ok (.getfield 54, 3) := by decide +kernel
theorem dX4_readLine_88 : decode cX4_readLine 88 = .ok (.istore_n 1, 1) := by decide +kernel
theorem dX4_readLine_89 : decode cX4_readLine 89 = .ok (.aload_n 0, 1) := by decide +kernel
theorem dX4_readLine_90 : decode cX4_readLine 90 = .ok (.invokevirtual 76, 3) := by decide +kernel
theorem dX4_readLine_93 : decode cX4_readLine 93 = .ok (.ifCond .eq 12, 3) := by decide +kernel
theorem dX4_readLine_96 : decode cX4_readLine 96 = .ok (.aload_n 0, 1) := by decide +kernel
theorem dX4_readLine_97 : decode cX4_readLine 97 = .ok (.bipush 61, 2) := by decide +kernel
theorem dX4_readLine_99 : decode cX4_readLine 99 = .ok (.invokevirtual 61, 3) := by decide +kernel
theorem dX4_readLine_102 : decode cX4_readLine 102 = .ok (.ifCond .ne 5, 3) := by decide +kernel
theorem dX4_readLine_105 : decode cX4_readLine 105 = .ok (.iconst 0, 1) := by decide +kernel
theorem dX4_readLine_106 : decode cX4_readLine 106 = .ok (.ireturn, 1) := by decide +kernel
theorem dX4_readLine_107 : decode cX4_readLine 107 = .ok (.aload_n 0, 1) := by decide +kernel
theorem dX4_readLine_108 : decode cX4_readLine 108 = .ok (.ldc 79, 2) := by decide +kernel
theorem dX4_readLine_110 : decode cX4_readLine 110 = .ok (.invokevirtual 67, 3) := by decide +kernel
theorem dX4_readLine_113 : decode cX4_readLine 113 = .ok (.ifCond .eq 10, 3) := by decide +kernel
theorem dX4_readLine_116 : decode cX4_readLine 116 = .ok (.aload_n 0, 1) := by decide +kernel
theorem dX4_readLine_117 : decode cX4_readLine 117 = .ok (.invokevirtual 81, 3) := by decide +kernel
theorem dX4_readLine_120 : decode cX4_readLine 120 = .ok (.goto 7, 3) := by decide +kernel
theorem dX4_readLine_123 : decode cX4_readLine 123 = .ok (.aload_n 0, 1) := by decide +kernel
theorem dX4_readLine_124 : decode cX4_readLine 124 = .ok (.invokevirtual 84, 3) := by decide +kernel
theorem dX4_readLine_127 : decode cX4_readLine 127 = .ok (.istore_n 2, 1) := by decide +kernel
theorem dX4_readLine_128 : decode cX4_readLine 128 = .ok (.iload_n 2, 1) := by decide +kernel
theorem dX4_readLine_129 : decode cX4_readLine 129 = .ok (.ifCond .eq 15, 3) := by decide +kernel
theorem dX4_readLine_132 : decode cX4_readLine 132 = .ok (.aload_n 0, 1) := by decide +kernel
theorem dX4_readLine_133 : decode cX4_readLine 133 = .ok (.iload_n 1, 1) := by decide +kernel
theorem dX4_readLine_134 : decode cX4_readLine 134 = .ok (.invokevirtual 87, 3) := by decide +kernel
theorem dX4_readLine_137 : decode cX4_readLine 137 = .ok (.ifCond .eq 7, 3) := by decide +kernel
theorem dX4_readLine_140 : decode cX4_readLine 140 = .ok (.iconst 1, 1) := by decide +kernel
theorem dX4_readLine_141 : decode cX4_readLine 141 = .ok (.goto 4, 3) := by decide +kernel
theorem dX4_readLine_144 : decode cX4_readLine 144 = .ok (.iconst 0, 1) := by decide +kernel
theorem dX4_readLine_145 : decode cX4_readLine 145 = .ok (.ireturn, 1) := by decide +kernel
theorem dX4_readInput_0 : decode cX4_readInput 0 = .ok (.aload_n 0, 1) := by decide +kernel
theorem dX4_readInput_1 : decode cX4_readInput 1 = .ok (.invokevirtual 76, 3) := by decide +kernel
theorem dX4_readInput_4 : decode cX4_readInput 4 = .ok (.ifCond .eq 19, 3) := by decide +kernel
theorem dX4_readInput_7 : decode cX4_readInput 7 = .ok (.aload_n 0, 1) := by decide +kernel
theorem dX4_readInput_8 : decode cX4_readInput 8 = .ok (.ldc 91, 2) := by decide +kernel
theorem dX4_readInput_10 : decode cX4_readInput 10 = .ok (.invokevirtual 93, 3) := by decide +kernel
theorem dX4_readInput_13 : decode cX4_readInput 13 = .ok (.ifCond .eq 10, 3) := by decide +kernel
theorem dX4_readInput_16 : decode cX4_readInput 16 = .ok (.aload_n 0, 1) := by decide +kernel
theorem dX4_readInput_17 : decode cX4_readInput 17 = .ok (.invokevirtual 96, 3) := by decide +kernel
theorem dX4_readInput_20 : decode cX4_readInput 20 = .ok (.ifCond .ne 5, 3) := by decide +kernel
theorem dX4_readInput_23 : decode cX4_readInput 23 = .ok (.iconst 0, 1) := by decide +kernel
theorem dX4_readInput_24 : decode cX4_readInput 24 = .ok (.ireturn, 1) := by decide +kernel
theorem dX4_readInput_25 : decode cX4_readInput 25 = .ok (.aload_n 0, 1) := by decide +kernel
theorem dX4_readInput_26 : decode cX4_readInput 26 = .ok (.getfield 99, 3) := by decide +kernel
theorem dX4_readInput_29 : decode cX4_readInput 29 = .ok (.istore_n 1, 1) := by decide +kernel
theorem dX4_readInput_30 : decode cX4_readInput 30 = .ok (.aload_n 0, 1) := by decide +kernel
theorem dX4_readInput_31 : decode cX4_readInput 31 = .ok (.ldc 102, 2) := by decide +kernel
theorem dX4_readInput_33 : decode cX4_readInput 33 = .ok (.invokevirtual 93, 3) := by decide +kernel
theorem dX4_readInput_36 : decode cX4_readInput 36 = .ok (.ifCond .ne 5, 3) := by decide +kernel
theorem dX4_readInput_39 : decode cX4_readInput 39 = .ok (.iconst 0, 1) := by decide +kernel
theorem dX4_readInput_40 : decode cX4_readInput 40 = .ok (.ireturn, 1) := by decide +kernel
theorem dX4_readInput_41 : decode cX4_readInput 41 = .ok (.aload_n 0, 1) := by decide +kernel
theorem dX4_readInput_42 : decode cX4_readInput 42 = .ok (.invokevirtual 96, 3) := by decide +kernel
theorem dX4_readInput_45 : decode cX4_readInput 45 = .ok (.ifCond .ne 5, 3) := by decide +kernel
theorem dX4_readInput_48 : decode cX4_readInput 48 = .ok (.iconst 0, 1) := by decide +kernel
theorem dX4_readInput_49 : decode cX4_readInput 49 = .ok (.ireturn, 1) := by decide +kernel
theorem dX4_readInput_50 : decode cX4_readInput 50 = .ok (.iload_n 1, 1) := by decide +kernel
theorem dX4_readInput_51 : decode cX4_readInput 51 = .ok (.aload_n 0, 1) := by decide +kernel
theorem dX4_readInput_52 : decode cX4_readInput 52 = .ok (.getfield 99, 3) := by decide +kernel
theorem dX4_readInput_55 : decode cX4_readInput 55 = .ok (.invokestatic 104, 3) := by decide +kernel
theorem dX4_readInput_58 : decode cX4_readInput 58 = .ok (.ifCond .ne 13, 3) := by decide +kernel
theorem dX4_readInput_61 : decode cX4_readInput 61 = .ok (.aload_n 0, 1) := by decide +kernel
theorem dX4_readInput_62 : decode cX4_readInput 62 = .ok (.iconst 2, 1) := by decide +kernel
theorem dX4_readInput_63 : decode cX4_readInput 63 = .ok (.aload_n 0, 1) := by decide +kernel
theorem dX4_readInput_64 : decode cX4_readInput 64 = .ok (.getfield 107, 3) := by decide +kernel
theorem dX4_readInput_67 : decode cX4_readInput 67 = .ok (.invokevirtual 57, 3) := by decide +kernel
theorem dX4_readInput_70 : decode cX4_readInput 70 = .ok (.ireturn, 1) := by decide +kernel
theorem dX4_readInput_71 : decode cX4_readInput 71 = .ok (.aload_n 0, 1) := by decide +kernel
theorem dX4_readInput_72 : decode cX4_readInput 72 = .ok (.getfield 19, 3) := by decide +kernel
theorem dX4_readInput_75 : decode cX4_readInput 75 = .ok (.aload_n 0, 1) := by decide +kernel
theorem dX4_readInput_76 : decode cX4_readInput 76 = .ok (.getfield 110, 3) := by decide +kernel
theorem dX4_readInput_79 : decode cX4_readInput 79 = .ok (.iload_n 1, 1) := by decide +kernel
theorem dX4_readInput_80 : decode cX4_readInput 80 = .ok (.aload_n 0, 1) := by decide +kernel
theorem dX4_readInput_81 : decode cX4_readInput 81 = .ok (.getfield 99, 3) := by decide +kernel
theorem dX4_readInput_84 : decode cX4_readInput 84 = .ok (.invokevirtual 113, 3) := by decide +kernel
theorem dX4_readInput_87 : decode cX4_readInput 87 = .ok (.iconst 1, 1) := by decide +kernel
theorem dX4_readInput_88 : decode cX4_readInput 88 = .ok (.ireturn, 1) := by decide +kernel
theorem dX4_readPick_0 : decode cX4_readPick 0 = .ok (.aload_n 0, 1) := by decide +kernel
theorem dX4_readPick_1 : decode cX4_readPick 1 = .ok (.iconst 3, 1) := by decide +kernel
theorem dX4_readPick_2 : decode cX4_readPick 2 = .ok (.putfield 117, 3) := by decide +kernel
theorem dX4_readPick_5 : decode cX4_readPick 5 = .ok (.aload_n 0, 1) := by decide +kernel
theorem dX4_readPick_6 : decode cX4_readPick 6 = .ok (.invokevirtual 40, 3) := by decide +kernel
theorem dX4_readPick_9 : decode cX4_readPick 9 = .ok (.aload_n 0, 1) := by decide +kernel
theorem dX4_readPick_10 : decode cX4_readPick 10 = .ok (.iconst 0, 1) := by decide +kernel
theorem dX4_readPick_11 : decode cX4_readPick 11 = .ok (.invokevirtual 120, 3) := by decide +kernel
theorem dX4_readPick_14 : decode cX4_readPick 14 = .ok (.ifCond .eq 58, 3) := by decide +kernel
theorem dX4_readPick_17 : decode cX4_readPick 17 = .ok (.aload_n 0, 1) := by decide +kernel
theorem dX4_readPick_18 : decode cX4_readPick 18 = .ok (.bipush 60, 2) := by decide +kernel
theorem dX4_readPick_20 : decode cX4_readPick 20 = .ok (.invokevirtual 61, 3) := by decide +kernel
theorem dX4_readPick_23 : decode cX4_readPick 23 = .ok (.ifCond .eq 49, 3) := by decide +kernel
theorem dX4_readPick_26 : decode cX4_readPick 26 = .ok (.aload_n 0, 1) := by decide +kernel
theorem dX4_readPick_27 : decode cX4_readPick 27 = .ok (.iconst 1, 1) := by decide +kernel
theorem dX4_readPick_28 : decode cX4_readPick 28 = .ok (.invokevirtual 120, 3) := by decide +kernel
theorem dX4_readPick_31 : decode cX4_readPick 31 = .ok (.ifCond .eq 41, 3) := by decide +kernel
theorem dX4_readPick_34 : decode cX4_readPick 34 = .ok (.aload_n 0, 1) := by decide +kernel
theorem dX4_readPick_35 : decode cX4_readPick 35 = .ok (.ldc 123, 2) := by decide +kernel
theorem dX4_readPick_37 : decode cX4_readPick 37 = .ok (.invokevirtual 93, 3) := by decide +kernel
theorem dX4_readPick_40 : decode cX4_readPick 40 = .ok (.ifCond .eq 32, 3) := by decide +kernel
theorem dX4_readPick_43 : decode cX4_readPick 43 = .ok (.aload_n 0, 1) := by decide +kernel
theorem dX4_readPick_44 : decode cX4_readPick 44 = .ok (.iconst 2, 1) := by decide +kernel
theorem dX4_readPick_45 : decode cX4_readPick 45 = .ok (.invokevirtual 120, 3) := by decide +kernel
theorem dX4_readPick_48 : decode cX4_readPick 48 = .ok (.ifCond .eq 24, 3) := by decide +kernel
theorem dX4_readPick_51 : decode cX4_readPick 51 = .ok (.aload_n 0, 1) := by decide +kernel
theorem dX4_readPick_52 : decode cX4_readPick 52 = .ok (.ldc 125, 2) := by decide +kernel
theorem dX4_readPick_54 : decode cX4_readPick 54 = .ok (.invokevirtual 93, 3) := by decide +kernel
theorem dX4_readPick_57 : decode cX4_readPick 57 = .ok (.ifCond .eq 15, 3) := by decide +kernel
theorem dX4_readPick_60 : decode cX4_readPick 60 = .ok (.aload_n 0, 1) := by decide +kernel
theorem dX4_readPick_61 : decode cX4_readPick 61 = .ok (.iconst 3, 1) := by decide +kernel
theorem dX4_readPick_62 : decode cX4_readPick 62 = .ok (.invokevirtual 120, 3) := by decide +kernel
theorem dX4_readPick_65 : decode cX4_readPick 65 = .ok (.ifCond .eq 7, 3) := by decide +kernel
theorem dX4_readPick_68 : decode cX4_readPick 68 = .ok (.iconst 1, 1) := by decide +kernel
theorem dX4_readPick_69 : decode cX4_readPick 69 = .ok (.goto 4, 3) := by decide +kernel
theorem dX4_readPick_72 : decode cX4_readPick 72 = .ok (.iconst 0, 1) := by decide +kernel
theorem dX4_readPick_73 : decode cX4_readPick 73 = .ok (.ireturn, 1) := by decide +kernel
theorem dX4_readSum_0 : decode cX4_readSum 0 = .ok (.aload_n 0, 1) := by decide +kernel
theorem dX4_readSum_1 : decode cX4_readSum 1 = .ok (.iconst 0, 1) := by decide +kernel
theorem dX4_readSum_2 : decode cX4_readSum 2 = .ok (.invokevirtual 120, 3) := by decide +kernel
theorem dX4_readSum_5 : decode cX4_readSum 5 = .ok (.ifCond .ne 5, 3) := by decide +kernel
theorem dX4_readSum_8 : decode cX4_readSum 8 = .ok (.iconst 0, 1) := by decide +kernel
theorem dX4_readSum_9 : decode cX4_readSum 9 = .ok (.ireturn, 1) := by decide +kernel
theorem dX4_readSum_10 : decode cX4_readSum 10 = .ok (.aload_n 0, 1) := by decide +kernel
theorem dX4_readSum_11 : decode cX4_readSum 11 = .ok (.getfield 47, 3) := by decide +kernel
theorem dX4_readSum_14 : decode cX4_readSum 14 = .ok (.bipush 43, 2) := by decide +kernel
theorem dX4_readSum_16 : decode cX4_readSum 16 = .ok (.if_icmp .ne 11, 3) := by decide +kernel
theorem dX4_readSum_19 : decode cX4_readSum 19 = .ok (.aload_n 0, 1) := by decide +kernel
theorem dX4_readSum_20 : decode cX4_readSum 20 = .ok (.iconst 0, 1) := by decide +kernel
theorem dX4_readSum_21 : decode cX4_readSum 21 = .ok (.putfield 117, 3) := by decide +kernel
theorem dX4_readSum_24 : decode cX4_readSum 24 = .ok (.goto 47, 3) := by decide +kernel
theorem dX4_readSum_27 : decode cX4_readSum 27 = .ok (.aload_n 0, 1) := by decide +kernel
theorem dX4_readSum_28 : decode cX4_readSum 28 = .ok (.getfield 47, 3) := by decide +kernel
theorem dX4_readSum_31 : decode cX4_readSum 31 = .ok (.bipush 45, 2) := by decide +kernel
theorem dX4_readSum_33 : decode cX4_readSum 33 = .ok (.if_icmp .ne 11, 3) := by decide +kernel
theorem dX4_readSum_36 : decode cX4_readSum 36 = .ok (.aload_n 0, 1) := by decide +kernel
theorem dX4_readSum_37 : decode cX4_readSum 37 = .ok (.iconst 1, 1) := by decide +kernel
theorem dX4_readSum_38 : decode cX4_readSum 38 = .ok (.putfield 117, 3) := by decide +kernel
theorem dX4_readSum_41 : decode cX4_readSum 41 = .ok (.goto 30, 3) := by decide +kernel
theorem dX4_readSum_44 : decode cX4_readSum 44 = .ok (.aload_n 0, 1) := by decide +kernel
theorem dX4_readSum_45 : decode cX4_readSum 45 = .ok (.getfield 47, 3) := by decide +kernel
theorem dX4_readSum_48 : decode cX4_readSum 48 = .ok (.bipush 42, 2) := by decide +kernel
theorem dX4_readSum_50 : decode cX4_readSum 50 = .ok (.if_icmp .ne 11, 3) := by decide +kernel
theorem dX4_readSum_53 : decode cX4_readSum 53 = .ok (.aload_n 0, 1) := by decide +kernel
theorem dX4_readSum_54 : decode cX4_readSum 54 = .ok (.iconst 2, 1) := by decide +kernel
theorem dX4_readSum_55 : decode cX4_readSum 55 = .ok (.putfield 117, 3) := by decide +kernel
theorem dX4_readSum_58 : decode cX4_readSum 58 = .ok (.goto 13, 3) := by decide +kernel
theorem dX4_readSum_61 : decode cX4_readSum 61 = .ok (.aload_n 0, 1) := by decide +kernel
theorem dX4_readSum_62 : decode cX4_readSum 62 = .ok (.iconst 1, 1) := by decide +kernel
theorem dX4_readSum_63 : decode cX4_readSum 63 = .ok (.aload_n 0, 1) := by decide +kernel
theorem dX4_readSum_64 : decode cX4_readSum 64 = .ok (.getfield 54, 3) := by decide +kernel
theorem dX4_readSum_67 : decode cX4_readSum 67 = .ok (.invokevirtual 57, 3) := by decide +kernel
theorem dX4_readSum_70 : decode cX4_readSum 70 = .ok (.ireturn, 1) := by decide +kernel
theorem dX4_readSum_71 : decode cX4_readSum 71 = .ok (.aload_n 0, 1) := by decide +kernel
theorem dX4_readSum_72 : decode cX4_readSum 72 = .ok (.invokevirtual 40, 3) := by decide +kernel
theorem dX4_readSum_75 : decode cX4_readSum 75 = .ok (.aload_n 0, 1) := by decide +kernel
theorem dX4_readSum_76 : decode cX4_readSum 76 = .ok (.iconst 1, 1) := by decide +kernel
theorem dX4_readSum_77 : decode cX4_readSum 77 = .ok (.invokevirtual 120, 3) := by decide +kernel
theorem dX4_readSum_80 : decode cX4_readSum 80 = .ok (.ireturn, 1) := by decide +kernel
theorem dX4_readGrid_0 : decode cX4_readGrid 0 = .ok (.aload_n 0, 1) := by decide +kernel
theorem dX4_readGrid_1 : decode cX4_readGrid 1 = .ok (.ldc 127, 2) := by decide +kernel
theorem dX4_readGrid_3 : decode cX4_readGrid 3 = .ok (.invokevirtual 93, 3) := by decide +kernel
theorem dX4_readGrid_6 : decode cX4_readGrid 6 = .ok (.ifCond .ne 5, 3) := by decide +kernel
theorem dX4_readGrid_9 : decode cX4_readGrid 9 = .ok (.iconst 0, 1) := by decide +kernel
theorem dX4_readGrid_10 : decode cX4_readGrid 10 = .ok (.ireturn, 1) := by decide +kernel
theorem dX4_readGrid_11 : decode cX4_readGrid 11 = .ok (.aload_n 0, 1) := by decide +kernel
theorem dX4_readGrid_12 : decode cX4_readGrid 12 = .ok (.getfield 47, 3) := by decide +kernel
theorem dX4_readGrid_15 : decode cX4_readGrid 15 = .ok (.iconst 3, 1) := by decide +kernel
theorem dX4_readGrid_16 : decode cX4_readGrid 16 = .ok (.if_icmp .eq 13, 3) := by decide +kernel
theorem dX4_readGrid_19 : decode cX4_readGrid 19 = .ok (.aload_n 0, 1) := by decide +kernel
theorem dX4_readGrid_20 : decode cX4_readGrid 20 = .ok (.iconst 1, 1) := by decide +kernel
theorem dX4_readGrid_21 : decode cX4_readGrid 21 = .ok (.aload_n 0, 1) := by decide +kernel
theorem dX4_readGrid_22 : decode cX4_readGrid 22 = .ok (.getfield 54, 3) := by decide +kernel
theorem dX4_readGrid_25 : decode cX4_readGrid 25 = .ok (.invokevirtual 57, 3) := by decide +kernel
theorem dX4_readGrid_28 : decode cX4_readGrid 28 = .ok (.ireturn, 1) := by decide +kernel
theorem dX4_readGrid_29 : decode cX4_readGrid 29 = .ok (.aload_n 0, 1) := by decide +kernel
theorem dX4_readGrid_30 : decode cX4_readGrid 30 = .ok (.getfield 129, 3) := by decide +kernel
theorem dX4_readGrid_33 : decode cX4_readGrid 33 = .ok (.bipush 8, 2) := by decide +kernel
theorem dX4_readGrid_35 : decode cX4_readGrid 35 = .ok (.if_icmp .le 13, 3) := by decide +kernel
theorem dX4_readGrid_38 : decode cX4_readGrid 38 = .ok (.aload_n 0, 1) := by decide +kernel
theorem dX4_readGrid_39 : decode cX4_readGrid 39 = .ok (.iconst 2, 1) := by decide +kernel
theorem dX4_readGrid_40 : decode cX4_readGrid 40 = .ok (.aload_n 0, 1) := by decide +kernel
theorem dX4_readGrid_41 : decode cX4_readGrid 41 = .ok (.getfield 54, 3) := by decide +kernel
theorem dX4_readGrid_44 : decode cX4_readGrid 44 = .ok (.invokevirtual 57, 3) := by decide +kernel
theorem dX4_readGrid_47 : decode cX4_readGrid 47 = .ok (.ireturn, 1) := by decide +kernel
theorem dX4_readGrid_48 : decode cX4_readGrid 48 = .ok (.aload_n 0, 1) := by decide +kernel
theorem dX4_readGrid_49 : decode cX4_readGrid 49 = .ok (.getfield 129, 3) := by decide +kernel
theorem dX4_readGrid_52 : decode cX4_readGrid 52 = .ok (.istore_n 2, 1) := by decide +kernel
theorem dX4_readGrid_53 : decode cX4_readGrid 53 = .ok (.aload_n 0, 1) := by decide +kernel
theorem dX4_readGrid_54 : decode cX4_readGrid 54 = .ok (.invokevirtual 40, 3) := by decide +kernel
theorem dX4_readGrid_57 : decode cX4_readGrid 57 = .ok (.aload_n 0, 1) := by decide +kernel
theorem dX4_readGrid_58 : decode cX4_readGrid 58 = .ok (.getfield 19, 3) := by decide +kernel
theorem dX4_readGrid_61 : decode cX4_readGrid 61 = .ok (.aload_n 0, 1) := by decide +kernel
theorem dX4_readGrid_62 : decode cX4_readGrid 62 = .ok (.getfield 110, 3) := by decide +kernel
theorem dX4_readGrid_65 : decode cX4_readGrid 65 = .ok (.aload_n 0, 1) := by decide +kernel
theorem dX4_readGrid_66 : decode cX4_readGrid 66 = .ok (.getfield 117, 3) := by decide +kernel
theorem dX4_readGrid_69 : decode cX4_readGrid 69 = .ok (.iload_n 2, 1) := by decide +kernel
theorem dX4_readGrid_70 : decode cX4_readGrid 70 = .ok (.invokevirtual 132, 3) := by decide +kernel
theorem dX4_readGrid_73 : decode cX4_readGrid 73 = .ok (.ifCond .ne 12, 3) := by decide +kernel
theorem dX4_readGrid_76 : decode cX4_readGrid 76 = .ok (.aload_n 0, 1) := by decide +kernel
theorem dX4_readGrid_77 : decode cX4_readGrid 77 = .ok (.iconst 5, 1) := by decide +kernel
theorem dX4_readGrid_78 : decode cX4_readGrid 78 = .ok (.iload_n 1, 1) := by decide +kernel
theorem dX4_readGrid_79 : decode cX4_readGrid 79 = .ok (.invokevirtual 57, 3) := by decide +kernel
theorem dX4_readGrid_82 : decode cX4_readGrid 82 = .ok (.ifCond .eq 7, 3) := by decide +kernel
theorem dX4_readGrid_85 : decode cX4_readGrid 85 = .ok (.iconst 1, 1) := by decide +kernel
theorem dX4_readGrid_86 : decode cX4_readGrid 86 = .ok (.goto 4, 3) := by decide +kernel
theorem dX4_readGrid_89 : decode cX4_readGrid 89 = .ok (.iconst 0, 1) := by decide +kernel
theorem dX4_readGrid_90 : decode cX4_readGrid 90 = .ok (.ireturn, 1) := by decide +kernel
theorem dX4_readNewName_0 : decode cX4_readNewName 0 = .ok (.aload_n 0, 1) := by decide +kernel
theorem dX4_readNewName_1 : decode cX4_readNewName 1 = .ok (.invokevirtual 136, 3) := by decide +kernel
theorem dX4_readNewName_4 : decode cX4_readNewName 4 = .ok (.ifCond .ne 13, 3) := by decide +kernel
theorem dX4_readNewName_7 : decode cX4_readNewName 7 = .ok (.aload_n 0, 1) := by decide +kernel
theorem dX4_readNewName_8 : decode cX4_readNewName 8 = .ok (.iconst 1, 1) := by decide +kernel
theorem dX4_readNewName_9 : decode cX4_readNewName 9 = .ok (.aload_n 0, 1) := by decide +kernel
theorem dX4_readNewName_10 : decode cX4_readNewName 10 = .ok (.getfield 54, 3) := by decide +kernel
theorem dX4_readNewName_13 : decode cX4_readNewName 13 = .ok (.invokevirtual 57, 3) := by decide +kernel
theorem dX4_readNewName_16 : decode cX4_readNewName 16 = .ok (.ireturn, 1) := by decide +kernel
theorem dX4_readNewName_17 : decode cX4_readNewName 17 = .ok (.aload_n 0, 1) := by decide +kernel
theorem dX4_readNewName_18 : decode cX4_readNewName 18 = .ok (.getfield 19, 3) := by decide +kernel
theorem dX4_readNewName_21 : decode cX4_readNewName 21 = .ok (.aload_n 0, 1) := by decide +kernel
theorem dX4_readNewName_22 : decode cX4_readNewName 22 = .ok (.getfield 129, 3) := by decide +kernel
theorem dX4_readNewName_25 : decode cX4_readNewName 25 = .ok (.invokevirtual 139, 3) := by decide +kernel
theorem dX4_readNewName_28 : decode cX4_readNewName 28 = .ok (.iconst (-1), 1) := by decide +kernel
theorem dX4_readNewName_29 : decode cX4_readNewName 29 = .ok (.if_icmp .eq 13, 3) := by decide +kernel
theorem dX4_readNewName_32 : decode cX4_readNewName 32 = .ok (.aload_n 0, 1) := by decide +kernel
theorem dX4_readNewName_33 : decode cX4_readNewName 33 = .ok (.iconst 3, 1) := by decide +kernel
theorem dX4_readNewName_34 : decode cX4_readNewName 34 = .ok (.aload_n 0, 1) := by decide +kernel
theorem dX4_readNewName_35 : decode cX4_readNewName 35 = .ok (.getfield 54, 3) := by decide +kernel
theorem dX4_readNewName_38 : decode cX4_readNewName 38 = .ok (.invokevirtual 57, 3) := by decide +kernel
theorem dX4_readNewName_41 : decode cX4_readNewName 41 = .ok (.ireturn, 1) := by decide +kernel
theorem dX4_readNewName_42 : decode cX4_readNewName 42 = .ok (.aload_n 0, 1) := by decide +kernel
theorem dX4_readNewName_43 : decode cX4_readNewName 43 = .ok (.aload_n 0, 1) := by decide +kernel
theorem dX4_readNewName_44 : decode cX4_readNewName 44 = .ok (.getfield 129, 3) := by decide +kernel
theorem dX4_readNewName_47 : decode cX4_readNewName 47 = .ok (.putfield 110, 3) := by decide +kernel
theorem dX4_readNewName_50 : decode cX4_readNewName 50 = .ok (.aload_n 0, 1) := by decide +kernel
theorem dX4_readNewName_51 : decode cX4_readNewName 51 = .ok (.invokevirtual 40, 3) := by decide +kernel
theorem dX4_readNewName_54 : decode cX4_readNewName 54 = .ok (.iconst 1, 1) := by decide +kernel
theorem dX4_readNewName_55 : decode cX4_readNewName 55 = .ok (.ireturn, 1) := by decide +kernel
theorem dX4_readOperand_0 : decode cX4_readOperand 0 = .ok (.aload_n 0, 1) := by decide +kernel
theorem dX4_readOperand_1 : decode cX4_readOperand 1 = .ok (.invokevirtual 136, 3) := by decide +kernel
theorem dX4_readOperand_4 : decode cX4_readOperand 4 = .ok (.ifCond .ne 28, 3) := by decide +kernel
theorem dX4_readOperand_7 : decode cX4_readOperand 7 = .ok (.aload_n 0, 1) := by decide +kernel
theorem dX4_readOperand_8 : decode cX4_readOperand 8 = .ok (.invokevirtual 96, 3) := by decide +kernel
theorem dX4_readOperand_11 : decode cX4_readOperand 11 = .ok (.ifCond .ne 5, 3) := by decide +kernel
theorem dX4_readOperand_14 : decode cX4_readOperand 14 = .ok (.iconst 0, 1) := by decide +kernel
theorem dX4_readOperand_15 : decode cX4_readOperand 15 = .ok (.ireturn, 1) := by decide +kernel
theorem dX4_readOperand_16 : decode cX4_readOperand 16 = .ok (.aload_n 0, 1) := by decide +kernel
theorem dX4_readOperand_17 : decode cX4_readOperand 17 = .ok (.getfield 19, 3) := by decide +kernel
theorem dX4_readOperand_20 : decode cX4_readOperand 20 = .ok (.iload_n 1, 1) := by decide +kernel
theorem dX4_readOperand_21 : decode cX4_readOperand 21 = .ok (.bipush (-2), 2) := by decide +kernel
theorem dX4_readOperand_23 : decode cX4_readOperand 23 = .ok (.aload_n 0, 1) := by decide +kernel
theorem dX4_readOperand_24 : decode cX4_readOperand 24 = .ok (.getfield 99, 3) := by decide +kernel
theorem dX4_readOperand_27 : decode cX4_readOperand 27 = .ok (.invokevirtual 143, 3) := by decide +kernel
theorem dX4_readOperand_30 : decode cX4_readOperand 30 = .ok (.iconst 1, 1) := by decide +kernel
theorem dX4_readOperand_31 : decode cX4_readOperand 31 = .ok (.ireturn, 1) := by decide +kernel
theorem dX4_readOperand_32 : decode cX4_readOperand 32 = .ok (.aload_n 0, 1) := by decide +kernel
theorem dX4_readOperand_33 : decode cX4_readOperand 33 = .ok (.getfield 19, 3) := by decide +kernel
theorem dX4_readOperand_36 : decode cX4_readOperand 36 = .ok (.aload_n 0, 1) := by decide +kernel
theorem dX4_readOperand_37 : decode cX4_readOperand 37 = .ok (.getfield 129, 3) := by decide +kernel
theorem dX4_readOperand_40 : decode cX4_readOperand 40 = .ok (.invokevirtual 139, 3) := by decide +kernel
theorem dX4_readOperand_43 : decode cX4_readOperand 43 = .ok (.istore_n 2, 1) := by decide +kernel
theorem dX4_readOperand_44 : decode cX4_readOperand 44 = .ok (.iload_n 2, 1) := by decide +kernel
theorem dX4_readOperand_45 : decode cX4_readOperand 45 = .ok (.iconst (-1), 1) := by decide +kernel
theorem dX4_readOperand_46 : decode cX4_readOperand 46 = .ok (.if_icmp .ne 13, 3) := by decide +kernel
theorem dX4_readOperand_49 : decode cX4_readOperand 49 = .ok (.aload_n 0, 1) := by decide +kernel
theorem dX4_readOperand_50 : decode cX4_readOperand 50 = .ok (.iconst 3, 1) := by decide +kernel
theorem dX4_readOperand_51 : decode cX4_readOperand 51 = .ok (.aload_n 0, 1) := by decide +kernel
theorem dX4_readOperand_52 : decode cX4_readOperand 52 = .ok (.getfield 54, 3) := by decide +kernel
theorem dX4_readOperand_55 : decode cX4_readOperand 55 = .ok (.invokevirtual 57, 3) := by decide +kernel
theorem dX4_readOperand_58 : decode cX4_readOperand 58 = .ok (.ireturn, 1) := by decide +kernel
theorem dX4_readOperand_59 : decode cX4_readOperand 59 = .ok (.aload_n 0, 1) := by decide +kernel
theorem dX4_readOperand_60 : decode cX4_readOperand 60 = .ok (.getfield 19, 3) := by decide +kernel
theorem dX4_readOperand_63 : decode cX4_readOperand 63 = .ok (.iload_n 1, 1) := by decide +kernel
theorem dX4_readOperand_64 : decode cX4_readOperand 64 = .ok (.iload_n 2, 1) := by decide +kernel
theorem dX4_readOperand_65 : decode cX4_readOperand 65 = .ok (.iconst 0, 1) := by decide +kernel
theorem dX4_readOperand_66 : decode cX4_readOperand 66 = .ok (.invokevirtual 143, 3) := by decide +kernel
theorem dX4_readOperand_69 : decode cX4_readOperand 69 = .ok (.aload_n 0, 1) := by decide +kernel
theorem dX4_readOperand_70 : decode cX4_readOperand 70 = .ok (.invokevirtual 40, 3) := by decide +kernel
theorem dX4_readOperand_73 : decode cX4_readOperand 73 = .ok (.iconst 1, 1) := by decide +kernel
theorem dX4_readOperand_74 : decode cX4_readOperand 74 = .ok (.ireturn, 1) := by decide +kernel
theorem dX4_readNumber_0 : decode cX4_readNumber 0 = .ok (.aload_n 0, 1) := by decide +kernel
theorem dX4_readNumber_1 : decode cX4_readNumber 1 = .ok (.getfield 47, 3) := by decide +kernel
theorem dX4_readNumber_4 : decode cX4_readNumber 4 = .ok (.bipush 45, 2) := by decide +kernel
theorem dX4_readNumber_6 : decode cX4_readNumber 6 = .ok (.if_icmp .ne 7, 3) := by decide +kernel
theorem dX4_readNumber_9 : decode cX4_readNumber 9 = .ok (.iconst 1, 1) := by decide +kernel
theorem dX4_readNumber_10 : decode cX4_readNumber 10 = .ok (.goto 4, 3) := by decide +kernel
theorem dX4_readNumber_13 : decode cX4_readNumber 13 = .ok (.iconst 0, 1) := by decide +kernel
theorem dX4_readNumber_14 : decode cX4_readNumber 14 = .ok (.istore_n 1, 1) := by decide +kernel
theorem dX4_readNumber_15 : decode cX4_readNumber 15 = .ok (.iload_n 1, 1) := by decide +kernel
theorem dX4_readNumber_16 : decode cX4_readNumber 16 = .ok (.ifCond .eq 7, 3) := by decide +kernel
theorem dX4_readNumber_19 : decode cX4_readNumber 19 = .ok (.aload_n 0, 1) := by decide +kernel
theorem dX4_readNumber_20 : decode cX4_readNumber 20 = .ok (.invokevirtual 40, 3) := by decide +kernel
theorem dX4_readNumber_23 : decode cX4_readNumber 23 = .ok (.aload_n 0, 1) := by decide +kernel
theorem dX4_readNumber_24 : decode cX4_readNumber 24 = .ok (.getfield 47, 3) := by decide +kernel
theorem dX4_readNumber_27 : decode cX4_readNumber 27 = .ok (.iconst 3, 1) := by decide +kernel
theorem dX4_readNumber_28 : decode cX4_readNumber 28 = .ok (.if_icmp .eq 13, 3) := by decide +kernel
theorem dX4_readNumber_31 : decode cX4_readNumber 31 = .ok (.aload_n 0, 1) := by decide +kernel
theorem dX4_readNumber_32 : decode cX4_readNumber 32 = .ok (.iconst 1, 1) := by decide +kernel
theorem dX4_readNumber_33 : decode cX4_readNumber 33 = .ok (.aload_n 0, 1) := by decide +kernel
theorem dX4_readNumber_34 : decode cX4_readNumber 34 = .ok (.getfield 54, 3) := by decide +kernel
theorem dX4_readNumber_37 : decode cX4_readNumber 37 = .ok (.invokevirtual 57, 3) := by decide +kernel
theorem dX4_readNumber_40 : decode cX4_readNumber 40 = .ok (.ireturn, 1) := by decide +kernel
theorem dX4_readNumber_41 : decode cX4_readNumber 41 = .ok (.aload_n 0, 1) := by decide +kernel
theorem dX4_readNumber_42 : decode cX4_readNumber 42 = .ok (.iload_n 1, 1) := by decide +kernel
theorem dX4_readNumber_43 : decode cX4_readNumber 43 = .ok (.ifCond .eq 11, 3) := by decide +kernel
theorem dX4_readNumber_46 : decode cX4_readNumber 46 = .ok (.aload_n 0, 1) := by decide +kernel
theorem dX4_readNumber_47 : decode cX4_readNumber 47 = .ok (.getfield 129, 3) := by decide +kernel
theorem dX4_readNumber_50 : decode cX4_readNumber 50 = .ok (.ineg, 1) := by decide +kernel
theorem dX4_readNumber_51 : decode cX4_readNumber 51 = .ok (.goto 7, 3) := by decide +kernel
theorem dX4_readNumber_54 : decode cX4_readNumber 54 = .ok (.aload_n 0, 1) := by decide +kernel
theorem dX4_readNumber_55 : decode cX4_readNumber 55 = .ok (.getfield 129, 3) := by decide +kernel
theorem dX4_readNumber_58 : decode cX4_readNumber 58 = .ok (.putfield 99, 3) := by decide +kernel
theorem dX4_readNumber_61 : decode cX4_readNumber 61 = .ok (.aload_n 0, 1) := by decide +kernel
theorem dX4_readNumber_62 : decode cX4_readNumber 62 = .ok (.aload_n 0, 1) := by decide +kernel
theorem dX4_readNumber_63 : decode cX4_readNumber 63 = .ok (.getfield 54, 3) := by decide +kernel
theorem dX4_readNumber_66 : decode cX4_readNumber 66 = .ok (.putfield 107, 3) := by decide +kernel
theorem dX4_readNumber_69 : decode cX4_readNumber 69 = .ok (.aload_n 0, 1) := by decide +kernel
theorem dX4_readNumber_70 : decode cX4_readNumber 70 = .ok (.getfield 99, 3) := by decide +kernel
theorem dX4_readNumber_73 : decode cX4_readNumber 73 = .ok (.invokestatic 146, 3) := by decide +kernel
theorem dX4_readNumber_76 : decode cX4_readNumber 76 = .ok (.ifCond .ne 13, 3) := by decide +kernel
theorem dX4_readNumber_79 : decode cX4_readNumber 79 = .ok (.aload_n 0, 1) := by decide +kernel
theorem dX4_readNumber_80 : decode cX4_readNumber 80 = .ok (.iconst 2, 1) := by decide +kernel
theorem dX4_readNumber_81 : decode cX4_readNumber 81 = .ok (.aload_n 0, 1) := by decide +kernel
theorem dX4_readNumber_82 : decode cX4_readNumber 82 = .ok (.getfield 54, 3) := by decide +kernel
theorem dX4_readNumber_85 : decode cX4_readNumber 85 = .ok (.invokevirtual 57, 3) := by decide +kernel
theorem dX4_readNumber_88 : decode cX4_readNumber 88 = .ok (.ireturn, 1) := by decide +kernel
theorem dX4_readNumber_89 : decode cX4_readNumber 89 = .ok (.aload_n 0, 1) := by decide +kernel
theorem dX4_readNumber_90 : decode cX4_readNumber 90 = .ok (.invokevirtual 40, 3) := by decide +kernel
theorem dX4_readNumber_93 : decode cX4_readNumber 93 = .ok (.iconst 1, 1) := by decide +kernel
theorem dX4_readNumber_94 : decode cX4_readNumber 94 = .ok (.ireturn, 1) := by decide +kernel
theorem dX4_skipWord_0 : decode cX4_skipWord 0 = .ok (.aload_n 0, 1) := by decide +kernel
theorem dX4_skipWord_1 : decode cX4_skipWord 1 = .ok (.aload_n 1, 1) := by decide +kernel
theorem dX4_skipWord_2 : decode cX4_skipWord 2 = .ok (.invokevirtual 67, 3) := by decide +kernel
theorem dX4_skipWord_5 : decode cX4_skipWord 5 = .ok (.ifCond .ne 13, 3) := by decide +kernel
theorem dX4_skipWord_8 : decode cX4_skipWord 8 = .ok (.aload_n 0, 1) := by decide +kernel
theorem dX4_skipWord_9 : decode cX4_skipWord 9 = .ok (.iconst 1, 1) := by decide +kernel
theorem dX4_skipWord_10 : decode cX4_skipWord 10 = .ok (.aload_n 0, 1) := by decide +kernel
theorem dX4_skipWord_11 : decode cX4_skipWord 11 = .ok (.getfield 54, 3) := by decide +kernel
theorem dX4_skipWord_14 : decode cX4_skipWord 14 = .ok (.invokevirtual 57, 3) := by decide +kernel
theorem dX4_skipWord_17 : decode cX4_skipWord 17 = .ok (.ireturn, 1) := by decide +kernel
theorem dX4_skipWord_18 : decode cX4_skipWord 18 = .ok (.aload_n 0, 1) := by decide +kernel
theorem dX4_skipWord_19 : decode cX4_skipWord 19 = .ok (.invokevirtual 40, 3) := by decide +kernel
theorem dX4_skipWord_22 : decode cX4_skipWord 22 = .ok (.iconst 1, 1) := by decide +kernel
theorem dX4_skipWord_23 : decode cX4_skipWord 23 = .ok (.ireturn, 1) := by decide +kernel
theorem dX4_skipSign_0 : decode cX4_skipSign 0 = .ok (.aload_n 0, 1) := by decide +kernel
theorem dX4_skipSign_1 : decode cX4_skipSign 1 = .ok (.getfield 47, 3) := by decide +kernel
theorem dX4_skipSign_4 : decode cX4_skipSign 4 = .ok (.iload_n 1, 1) := by decide +kernel
theorem dX4_skipSign_5 : decode cX4_skipSign 5 = .ok (.if_icmp .eq 13, 3) := by decide +kernel
theorem dX4_skipSign_8 : decode cX4_skipSign 8 = .ok (.aload_n 0, 1) := by decide +kernel
theorem dX4_skipSign_9 : decode cX4_skipSign 9 = .ok (.iconst 1, 1) := by decide +kernel
theorem dX4_skipSign_10 : decode cX4_skipSign 10 = .ok (.aload_n 0, 1) := by decide +kernel
theorem dX4_skipSign_11 : decode cX4_skipSign 11 = .ok (.getfield 54, 3) := by decide +kernel
theorem dX4_skipSign_14 : decode cX4_skipSign 14 = .ok (.invokevirtual 57, 3) := by decide +kernel
theorem dX4_skipSign_17 : decode cX4_skipSign 17 = .ok (.ireturn, 1) := by decide +kernel
theorem dX4_skipSign_18 : decode cX4_skipSign 18 = .ok (.aload_n 0, 1) := by decide +kernel
theorem dX4_skipSign_19 : decode cX4_skipSign 19 = .ok (.invokevirtual 40, 3) := by decide +kernel
theorem dX4_skipSign_22 : decode cX4_skipSign 22 = .ok (.iconst 1, 1) := by decide +kernel
theorem dX4_skipSign_23 : decode cX4_skipSign 23 = .ok (.ireturn, 1) := by decide +kernel
theorem dX4_seesName_0 : decode cX4_seesName 0 = .ok (.aload_n 0, 1) := by decide +kernel
theorem dX4_seesName_1 : decode cX4_seesName 1 = .ok (.getfield 47, 3) := by decide +kernel
theorem dX4_seesName_4 : decode cX4_seesName 4 = .ok (.iconst 2, 1) := by decide +kernel
theorem dX4_seesName_5 : decode cX4_seesName 5 = .ok (.if_icmp .ne 79, 3) := by decide +kernel
theorem dX4_seesName_8 : decode cX4_seesName 8 = .ok (.aload_n 0, 1) := by decide +kernel
theorem dX4_seesName_9 : decode cX4_seesName 9 = .ok (.ldc 65, 2) := by decide +kernel
theorem dX4_seesName_11 : decode cX4_seesName 11 = .ok (.invokevirtual 67, 3) := by decide +kernel
theorem dX4_seesName_14 : decode cX4_seesName 14 = .ok (.ifCond .ne 70, 3) := by decide +kernel
theorem dX4_seesName_17 : decode cX4_seesName 17 = .ok (.aload_n 0, 1) := by decide +kernel
theorem dX4_seesName_18 : decode cX4_seesName 18 = .ok (.ldc 91, 2) := by decide +kernel
theorem dX4_seesName_20 : decode cX4_seesName 20 = .ok (.invokevirtual 67, 3) := by decide +kernel
theorem dX4_seesName_23 : decode cX4_seesName 23 = .ok (.ifCond .ne 61, 3) := by decide +kernel
theorem dX4_seesName_26 : decode cX4_seesName 26 = .ok (.aload_n 0, 1) := by decide +kernel
theorem dX4_seesName_27 : decode cX4_seesName 27 = .ok (.ldc 102, 2) := by decide +kernel
theorem dX4_seesName_29 : decode cX4_seesName 29 = .ok (.invokevirtual 67, 3) := by decide +kernel
theorem dX4_seesName_32 : decode cX4_seesName 32 = .ok (.ifCond .ne 52, 3) := by decide +kernel
theorem dX4_seesName_35 : decode cX4_seesName 35 = .ok (.aload_n 0, 1) := by decide +kernel
theorem dX4_seesName_36 : decode cX4_seesName 36 = .ok (.ldc 74, 2) := by decide +kernel
theorem dX4_seesName_38 : decode cX4_seesName 38 = .ok (.invokevirtual 67, 3) := by decide +kernel
theorem dX4_seesName_41 : decode cX4_seesName 41 = .ok (.ifCond .ne 43, 3) := by decide +kernel
theorem dX4_seesName_44 : decode cX4_seesName 44 = .ok (.aload_n 0, 1) := by decide +kernel
theorem dX4_seesName_45 : decode cX4_seesName 45 = .ok (.ldc 127, 2) := by decide +kernel
theorem dX4_seesName_47 : decode cX4_seesName 47 = .ok (.invokevirtual 67, 3) := by decide +kernel
theorem dX4_seesName_50 : decode cX4_seesName 50 = .ok (.ifCond .ne 34, 3) := by decide +kernel
theorem dX4_seesName_53 : decode cX4_seesName 53 = .ok (.aload_n 0, 1) := by decide +kernel
theorem dX4_seesName_54 : decode cX4_seesName 54 = .ok (.ldc 79, 2) := by decide +kernel
theorem dX4_seesName_56 : decode cX4_seesName 56 = .ok (.invokevirtual 67, 3) := by decide +kernel
theorem dX4_seesName_59 : decode cX4_seesName 59 = .ok (.ifCond .ne 25, 3) := by decide +kernel
theorem dX4_seesName_62 : decode cX4_seesName 62 = .ok (.aload_n 0, 1) := by decide +kernel
theorem dX4_seesName_63 : decode cX4_seesName 63 = .ok (.ldc 123, 2) := by decide +kernel
theorem dX4_seesName_65 : decode cX4_seesName 65 = .ok (.invokevirtual 67, 3) := by decide +kernel
theorem dX4_seesName_68 : decode cX4_seesName 68 = .ok (.ifCond .ne 16, 3) := by decide +kernel
theorem dX4_seesName_71 : decode cX4_seesName 71 = .ok (.aload_n 0, 1) := by decide +kernel
theorem dX4_seesName_72 : decode cX4_seesName 72 = .ok (.ldc 125, 2) := by decide +kernel
theorem dX4_seesName_74 : decode cX4_seesName 74 = .ok (.invokevirtual 67, 3) := by decide +kernel
theorem dX4_seesName_77 : decode cX4_seesName 77 = .ok (.ifCond .ne 7, 3) := by decide +kernel
theorem dX4_seesName_80 : decode cX4_seesName 80 = .ok (.iconst 1, 1) := by decide +kernel
theorem dX4_seesName_81 : decode cX4_seesName 81 = .ok (.goto 4, 3) := by decide +kernel
theorem dX4_seesName_84 : decode cX4_seesName 84 = .ok (.iconst 0, 1) := by decide +kernel
theorem dX4_seesName_85 : decode cX4_seesName 85 = .ok (.ireturn, 1) := by decide +kernel
theorem dX4_reads_0 : decode cX4_reads 0 = .ok (.aload_n 0, 1) := by decide +kernel
theorem dX4_reads_1 : decode cX4_reads 1 = .ok (.getfield 47, 3) := by decide +kernel
theorem dX4_reads_4 : decode cX4_reads 4 = .ok (.iconst 2, 1) := by decide +kernel
theorem dX4_reads_5 : decode cX4_reads 5 = .ok (.if_icmp .ne 19, 3) := by decide +kernel
theorem dX4_reads_8 : decode cX4_reads 8 = .ok (.aload_n 0, 1) := by decide +kernel
theorem dX4_reads_9 : decode cX4_reads 9 = .ok (.getfield 37, 3) := by decide +kernel
theorem dX4_reads_12 : decode cX4_reads 12 = .ok (.aload_n 0, 1) := by decide +kernel
theorem dX4_reads_13 : decode cX4_reads 13 = .ok (.getfield 54, 3) := by decide +kernel
theorem dX4_reads_16 : decode cX4_reads 16 = .ok (.isub, 1) := by decide +kernel
theorem dX4_reads_17 : decode cX4_reads 17 = .ok (.aload_n 1, 1) := by decide +kernel
theorem dX4_reads_18 : decode cX4_reads 18 = .ok (.invokevirtual 149, 3) := by decide +kernel
theorem dX4_reads_21 : decode cX4_reads 21 = .ok (.if_icmp .eq 5, 3) := by decide +kernel
theorem dX4_reads_24 : decode cX4_reads 24 = .ok (.iconst 0, 1) := by decide +kernel
theorem dX4_reads_25 : decode cX4_reads 25 = .ok (.ireturn, 1) := by decide +kernel
theorem dX4_reads_26 : decode cX4_reads 26 = .ok (.iconst 0, 1) := by decide +kernel
theorem dX4_reads_27 : decode cX4_reads 27 = .ok (.istore_n 2, 1) := by decide +kernel
theorem dX4_reads_28 : decode cX4_reads 28 = .ok (.iload_n 2, 1) := by decide +kernel
theorem dX4_reads_29 : decode cX4_reads 29 = .ok (.aload_n 1, 1) := by decide +kernel
theorem dX4_reads_30 : decode cX4_reads 30 = .ok (.invokevirtual 149, 3) := by decide +kernel
theorem dX4_reads_33 : decode cX4_reads 33 = .ok (.if_icmp .ge 30, 3) := by decide +kernel
theorem dX4_reads_36 : decode cX4_reads 36 = .ok (.aload_n 0, 1) := by decide +kernel
theorem dX4_reads_37 : decode cX4_reads 37 = .ok (.getfield 9, 3) := by decide +kernel
theorem dX4_reads_40 : decode cX4_reads 40 = .ok (.aload_n 0, 1) := by decide +kernel
theorem dX4_reads_41 : decode cX4_reads 41 = .ok (.getfield 54, 3) := by decide +kernel
theorem dX4_reads_44 : decode cX4_reads 44 = .ok (.iload_n 2, 1) := by decide +kernel
theorem dX4_reads_45 : decode cX4_reads 45 = .ok (.iadd, 1) := by decide +kernel
theorem dX4_reads_46 : decode cX4_reads 46 = .ok (.baload, 1) := by decide +kernel
theorem dX4_reads_47 : decode cX4_reads 47 = .ok (.aload_n 1, 1) := by decide +kernel
theorem dX4_reads_48 : decode cX4_reads 48 = .ok (.iload_n 2, 1) := by decide +kernel
theorem dX4_reads_49 : decode cX4_reads 49 = .ok (.invokevirtual 154, 3) := by decide +kernel
theorem dX4_reads_52 : decode cX4_reads 52 = .ok (.if_icmp .eq 5, 3) := by decide +kernel
theorem dX4_reads_55 : decode cX4_reads 55 = .ok (.iconst 0, 1) := by decide +kernel
theorem dX4_reads_56 : decode cX4_reads 56 = .ok (.ireturn, 1) := by decide +kernel
theorem dX4_reads_57 : decode cX4_reads 57 = .ok (.iinc 2 1, 3) := by decide +kernel
theorem dX4_reads_60 : decode cX4_reads 60 = .ok (.goto (-32), 3) := by decide +kernel
theorem dX4_reads_63 : decode cX4_reads 63 = .ok (.iconst 1, 1) := by decide +kernel
theorem dX4_reads_64 : decode cX4_reads 64 = .ok (.ireturn, 1) := by decide +kernel
theorem dX4_advance_0 : decode cX4_advance 0 = .ok (.aload_n 0, 1) := by decide +kernel
theorem dX4_advance_1 : decode cX4_advance 1 = .ok (.getfield 37, 3) := by decide +kernel
theorem dX4_advance_4 : decode cX4_advance 4 = .ok (.aload_n 0, 1) := by decide +kernel
theorem dX4_advance_5 : decode cX4_advance 5 = .ok (.getfield 15, 3) := by decide +kernel
theorem dX4_advance_8 : decode cX4_advance 8 = .ok (.if_icmp .ge 30, 3) := by decide +kernel
theorem dX4_advance_11 : decode cX4_advance 11 = .ok (.aload_n 0, 1) := by decide +kernel
theorem dX4_advance_12 : decode cX4_advance 12 = .ok (.getfield 9, 3) := by decide +kernel
theorem dX4_advance_15 : decode cX4_advance 15 = .ok (.aload_n 0, 1) := by decide +kernel
theorem dX4_advance_16 : decode cX4_advance 16 = .ok (.getfield 37, 3) := by decide +kernel
theorem dX4_advance_19 : decode cX4_advance 19 = .ok (.baload, 1) := by decide +kernel
theorem dX4_advance_20 : decode cX4_advance 20 = .ok (.bipush 32, 2) := by decide +kernel
theorem dX4_advance_22 : decode cX4_advance 22 = .ok (.if_icmp .ne 16, 3) := by decide +kernel
theorem dX4_advance_25 : decode cX4_advance 25 = .ok (.aload_n 0, 1) := by decide +kernel
theorem dX4_advance_26 : decode cX4_advance 26 = .ok (.dup, 1) := by decide +kernel
theorem dX4_advance_27 : decode cX4_advance 27 = .ok (.getfield 37, 3) := by decide +kernel
theorem dX4_advance_30 : decode cX4_advance 30 = .ok (.iconst 1, 1) := by decide +kernel
theorem dX4_advance_31 : decode cX4_advance 31 = .ok (.iadd, 1) := by decide +kernel
theorem dX4_advance_32 : decode cX4_advance 32 = .ok (.putfield 37, 3) := by decide +kernel
theorem dX4_advance_35 : decode cX4_advance 35 = .ok (.goto (-35), 3) := by decide +kernel
theorem dX4_advance_38 : decode cX4_advance 38 = .ok (.aload_n 0, 1) := by decide +kernel
theorem dX4_advance_39 : decode cX4_advance 39 = .ok (.aload_n 0, 1) := by decide +kernel
theorem dX4_advance_40 : decode cX4_advance 40 = .ok (.getfield 37, 3) := by decide +kernel
theorem dX4_advance_43 : decode cX4_advance 43 = .ok (.putfield 54, 3) := by decide +kernel
theorem dX4_advance_46 : decode cX4_advance 46 = .ok (.aload_n 0, 1) := by decide +kernel
theorem dX4_advance_47 : decode cX4_advance 47 = .ok (.iconst 0, 1) := by decide +kernel
theorem dX4_advance_48 : decode cX4_advance 48 = .ok (.putfield 129, 3) := by decide +kernel
theorem dX4_advance_51 : decode cX4_advance 51 = .ok (.aload_n 0, 1) := by decide +kernel
theorem dX4_advance_52 : decode cX4_advance 52 = .ok (.getfield 54, 3) := by decide +kernel
theorem dX4_advance_55 : decode cX4_advance 55 = .ok (.aload_n 0, 1) := by decide +kernel
theorem dX4_advance_56 : decode cX4_advance 56 = .ok (.getfield 15, 3) := by decide +kernel
theorem dX4_advance_59 : decode cX4_advance 59 = .ok (.if_icmp .lt 9, 3) := by decide +kernel
theorem dX4_advance_62 : decode cX4_advance 62 = .ok (.aload_n 0, 1) := by decide +kernel
theorem dX4_advance_63 : decode cX4_advance 63 = .ok (.iconst 0, 1) := by decide +kernel
theorem dX4_advance_64 : decode cX4_advance 64 = .ok (.putfield 47, 3) := by decide +kernel
theorem dX4_advance_67 : decode cX4_advance 67 = .ok (.return_, 1) := by decide +kernel
theorem dX4_advance_68 : decode cX4_advance 68 = .ok (.aload_n 0, 1) := by decide +kernel
theorem dX4_advance_69 : decode cX4_advance 69 = .ok (.getfield 9, 3) := by decide +kernel
theorem dX4_advance_72 : decode cX4_advance 72 = .ok (.aload_n 0, 1) := by decide +kernel
theorem dX4_advance_73 : decode cX4_advance 73 = .ok (.getfield 54, 3) := by decide +kernel
theorem dX4_advance_76 : decode cX4_advance 76 = .ok (.baload, 1) := by decide +kernel
theorem dX4_advance_77 : decode cX4_advance 77 = .ok (.istore_n 1, 1) := by decide +kernel
theorem dX4_advance_78 : decode cX4_advance 78 = .ok (.iload_n 1, 1) := by decide +kernel
theorem dX4_advance_79 : decode cX4_advance 79 = .ok (.bipush 97, 2) := by decide +kernel
theorem dX4_advance_81 : decode cX4_advance 81 = .ok (.if_icmp .lt 46, 3) := by decide +kernel
theorem dX4_advance_84 : decode cX4_advance 84 = .ok (.iload_n 1, 1) := by decide +kernel
theorem dX4_advance_85 : decode cX4_advance 85 = .ok (.bipush 122, 2) := by decide +kernel
theorem dX4_advance_87 : decode cX4_advance 87 = .ok (.if_icmp .gt 40, 3) := by decide +kernel
theorem dX4_advance_90 : decode cX4_advance 90 = .ok (.aload_n 0, 1) := by decide +kernel
theorem dX4_advance_91 : decode cX4_advance 91 = .ok (.bipush 97, 2) := by decide +kernel
theorem dX4_advance_93 : decode cX4_advance 93 = .ok (.bipush 122, 2) := by decide +kernel
theorem dX4_advance_95 : decode cX4_advance 95 = .ok (.bipush 27, 2) := by decide +kernel
theorem dX4_advance_97 : decode cX4_advance 97 = .ok (.iconst 1, 1) := by decide +kernel
theorem dX4_advance_98 : decode cX4_advance 98 = .ok (.invokevirtual 158, 3) := by decide +kernel
theorem dX4_advance_101 : decode cX4_advance 101 = .ok (.aload_n 0, 1) := by decide +kernel
theorem dX4_advance_102 : decode cX4_advance 102 = .ok (.aload_n 0, 1) := by decide +kernel
theorem dX4_advance_103 : decode cX4_advance 103 = .ok (.getfield 37, 3) := by decide +kernel
theorem dX4_advance_106 : decode cX4_advance 106 = .ok (.aload_n 0, 1) := by decide +kernel
theorem dX4_advance_107 : decode cX4_advance 107 = .ok (.getfield 54, 3) := by decide +kernel
theorem dX4_advance_110 : decode cX4_advance 110 = .ok (.isub, 1) := by decide +kernel
theorem dX4_advance_111 : decode cX4_advance 111 = .ok (.bipush 6, 2) := by decide +kernel
theorem dX4_advance_113 : decode cX4_advance 113 = .ok (.if_icmp .gt 7, 3) := by decide +kernel
theorem dX4_advance_116 : decode cX4_advance 116 = .ok (.iconst 2, 1) := by decide +kernel
theorem dX4_advance_117 : decode cX4_advance 117 = .ok (.goto 4, 3) := by decide +kernel
theorem dX4_advance_120 : decode cX4_advance 120 = .ok (.iconst 1, 1) := by decide +kernel
theorem dX4_advance_121 : decode cX4_advance 121 = .ok (.putfield 47, 3) := by decide +kernel
theorem dX4_advance_124 : decode cX4_advance 124 = .ok (.goto 77, 3) := by decide +kernel
theorem dX4_advance_127 : decode cX4_advance 127 = .ok (.iload_n 1, 1) := by decide +kernel
theorem dX4_advance_128 : decode cX4_advance 128 = .ok (.bipush 48, 2) := by decide +kernel
theorem dX4_advance_130 : decode cX4_advance 130 = .ok (.if_icmp .lt 45, 3) := by decide +kernel
theorem dX4_advance_133 : decode cX4_advance 133 = .ok (.iload_n 1, 1) := by decide +kernel
theorem dX4_advance_134 : decode cX4_advance 134 = .ok (.bipush 57, 2) := by decide +kernel
theorem dX4_advance_136 : decode cX4_advance 136 = .ok (.if_icmp .gt 39, 3) := by decide +kernel
theorem dX4_advance_139 : decode cX4_advance 139 = .ok (.aload_n 0, 1) := by decide +kernel
theorem dX4_advance_140 : decode cX4_advance 140 = .ok (.bipush 48, 2) := by decide +kernel
theorem dX4_advance_142 : decode cX4_advance 142 = .ok (.bipush 57, 2) := by decide +kernel
theorem dX4_advance_144 : decode cX4_advance 144 = .ok (.bipush 10, 2) := by decide +kernel
theorem dX4_advance_146 : decode cX4_advance 146 = .ok (.iconst 0, 1) := by decide +kernel
theorem dX4_advance_147 : decode cX4_advance 147 = .ok (.invokevirtual 158, 3) := by decide +kernel
theorem dX4_advance_150 : decode cX4_advance 150 = .ok (.aload_n 0, 1) := by decide +kernel
theorem dX4_advance_151 : decode cX4_advance 151 = .ok (.aload_n 0, 1) := by decide +kernel
theorem dX4_advance_152 : decode cX4_advance 152 = .ok (.getfield 37, 3) := by decide +kernel
theorem dX4_advance_155 : decode cX4_advance 155 = .ok (.aload_n 0, 1) := by decide +kernel
theorem dX4_advance_156 : decode cX4_advance 156 = .ok (.getfield 54, 3) := by decide +kernel
theorem dX4_advance_159 : decode cX4_advance 159 = .ok (.isub, 1) := by decide +kernel
theorem dX4_advance_160 : decode cX4_advance 160 = .ok (.iconst 4, 1) := by decide +kernel
theorem dX4_advance_161 : decode cX4_advance 161 = .ok (.if_icmp .gt 7, 3) := by decide +kernel
theorem dX4_advance_164 : decode cX4_advance 164 = .ok (.iconst 3, 1) := by decide +kernel
theorem dX4_advance_165 : decode cX4_advance 165 = .ok (.goto 4, 3) := by decide +kernel
theorem dX4_advance_168 : decode cX4_advance 168 = .ok (.iconst 1, 1) := by decide +kernel
theorem dX4_advance_169 : decode cX4_advance 169 = .ok (.putfield 47, 3) := by decide +kernel
theorem dX4_advance_172 : decode cX4_advance 172 = .ok (.goto 29, 3) := by decide +kernel
theorem dX4_advance_175 : decode cX4_advance 175 = .ok (.aload_n 0, 1) := by decide +kernel
theorem dX4_advance_176 : decode cX4_advance 176 = .ok (.dup, 1) := by decide +kernel
theorem dX4_advance_177 : decode cX4_advance 177 = .ok (.getfield 37, 3) := by decide +kernel
theorem dX4_advance_180 : decode cX4_advance 180 = .ok (.iconst 1, 1) := by decide +kernel
theorem dX4_advance_181 : decode cX4_advance 181 = .ok (.iadd, 1) := by decide +kernel
theorem dX4_advance_182 : decode cX4_advance 182 = .ok (.putfield 37, 3) := by decide +kernel
theorem dX4_advance_185 : decode cX4_advance 185 = .ok (.aload_n 0, 1) := by decide +kernel
theorem dX4_advance_186 : decode cX4_advance 186 = .ok (.iload_n 1, 1) := by decide +kernel
theorem dX4_advance_187 : decode cX4_advance 187 = .ok (.invokestatic 162, 3) := by decide +kernel
theorem dX4_advance_190 : decode cX4_advance 190 = .ok (.ifCond .eq 7, 3) := by decide +kernel
theorem dX4_advance_193 : decode cX4_advance 193 = .ok (.iload_n 1, 1) := by decide +kernel
theorem dX4_advance_194 : decode cX4_advance 194 = .ok (.goto 4, 3) := by decide +kernel
theorem dX4_advance_197 : decode cX4_advance 197 = .ok (.iconst 1, 1) := by decide +kernel
theorem dX4_advance_198 : decode cX4_advance 198 = .ok (.putfield 47, 3) := by decide +kernel
theorem dX4_advance_201 : decode cX4_advance 201 = .ok (.return_, 1) := by decide +kernel
theorem dX4_takeRun_0 : decode cX4_takeRun 0 = .ok (.aload_n 0, 1) := by decide +kernel
theorem dX4_takeRun_1 : decode cX4_takeRun 1 = .ok (.getfield 37, 3) := by decide +kernel
theorem dX4_takeRun_4 : decode cX4_takeRun 4 = .ok (.aload_n 0, 1) := by decide +kernel
theorem dX4_takeRun_5 : decode cX4_takeRun 5 = .ok (.getfield 15, 3) := by decide +kernel
theorem dX4_takeRun_8 : decode cX4_takeRun 8 = .ok (.if_icmp .ge 67, 3) := by decide +kernel
theorem dX4_takeRun_11 : decode cX4_takeRun 11 = .ok (.aload_n 0, 1) := by decide +kernel
theorem dX4_takeRun_12 : decode cX4_takeRun 12 = .ok (.getfield 9, 3) := by decide +kernel
theorem dX4_takeRun_15 : decode cX4_takeRun 15 = .ok (.aload_n 0, 1) := by decide +kernel
theorem dX4_takeRun_16 : decode cX4_takeRun 16 = .ok (.getfield 37, 3) := by decide +kernel
theorem dX4_takeRun_19 : decode cX4_takeRun 19 = .ok (.baload, 1) := by decide +kernel
theorem dX4_takeRun_20 : decode cX4_takeRun 20 = .ok (.iload_n 1, 1) := by decide +kernel
theorem dX4_takeRun_21 : decode cX4_takeRun 21 = .ok (.if_icmp .lt 54, 3) := by decide +kernel
theorem dX4_takeRun_24 : decode cX4_takeRun 24 = .ok (.aload_n 0, 1) := by decide +kernel
theorem dX4_takeRun_25 : decode cX4_takeRun 25 = .ok (.getfield 9, 3) := by decide +kernel
theorem dX4_takeRun_28 : decode cX4_takeRun 28 = .ok (.aload_n 0, 1) := by decide +kernel
theorem dX4_takeRun_29 : decode cX4_takeRun 29 = .ok (.getfield 37, 3) := by decide +kernel
theorem dX4_takeRun_32 : decode cX4_takeRun 32 = .ok (.baload, 1) := by decide +kernel
theorem dX4_takeRun_33 : decode cX4_takeRun 33 = .ok (.iload_n 2, 1) := by decide +kernel
theorem dX4_takeRun_34 : decode cX4_takeRun 34 = .ok (.if_icmp .gt 41, 3) := by decide +kernel
theorem dX4_takeRun_37 : decode cX4_takeRun 37 = .ok (.aload_n 0, 1) := by decide +kernel
theorem dX4_takeRun_38 : decode cX4_takeRun 38 = .ok (.aload_n 0, 1) := by decide +kernel
theorem dX4_takeRun_39 : decode cX4_takeRun 39 = .ok (.getfield 129, 3) := by decide +kernel
theorem dX4_takeRun_42 : decode cX4_takeRun 42 = .ok (.iload_n 3, 1) := by decide +kernel
theorem dX4_takeRun_43 : decode cX4_takeRun 43 = .ok (.imul, 1) := by decide +kernel
theorem dX4_takeRun_44 : decode cX4_takeRun 44 = .ok (.aload_n 0, 1) := by decide +kernel
theorem dX4_takeRun_45 : decode cX4_takeRun 45 = .ok (.getfield 9, 3) := by decide +kernel
theorem dX4_takeRun_48 : decode cX4_takeRun 48 = .ok (.aload_n 0, 1) := by decide +kernel
theorem dX4_takeRun_49 : decode cX4_takeRun 49 = .ok (.getfield 37, 3) := by decide +kernel
theorem dX4_takeRun_52 : decode cX4_takeRun 52 = .ok (.baload, 1) := by decide +kernel
theorem dX4_takeRun_53 : decode cX4_takeRun 53 = .ok (.iload_n 1, 1) := by decide +kernel
theorem dX4_takeRun_54 : decode cX4_takeRun 54 = .ok (.isub, 1) := by decide +kernel
theorem dX4_takeRun_55 : decode cX4_takeRun 55 = .ok (.iload 4, 2) := by decide +kernel
theorem dX4_takeRun_57 : decode cX4_takeRun 57 = .ok (.iadd, 1) := by decide +kernel
theorem dX4_takeRun_58 : decode cX4_takeRun 58 = .ok (.iadd, 1) := by decide +kernel
theorem dX4_takeRun_59 : decode cX4_takeRun 59 = .ok (.putfield 129, 3) := by decide +kernel
theorem dX4_takeRun_62 : decode cX4_takeRun 62 = .ok (.aload_n 0, 1) := by decide +kernel
theorem dX4_takeRun_63 : decode cX4_takeRun 63 = .ok (.dup, 1) := by decide +kernel
theorem dX4_takeRun_64 : decode cX4_takeRun 64 = .ok (.getfield 37, 3) := by decide +kernel
theorem dX4_takeRun_67 : decode cX4_takeRun 67 = .ok (.iconst 1, 1) := by decide +kernel
theorem dX4_takeRun_68 : decode cX4_takeRun 68 = .ok (.iadd, 1) := by decide +kernel
theorem dX4_takeRun_69 : decode cX4_takeRun 69 = .ok (.putfield 37, 3) := by decide +kernel
theorem dX4_takeRun_72 : decode cX4_takeRun 72 = .ok (.goto (-72), 3) := by decide +kernel
theorem dX4_takeRun_75 : decode cX4_takeRun 75 = .ok (.return_, 1) := by decide +kernel
theorem dX4_isSingle_0 : decode cX4_isSingle 0 = .ok (.iload_n 0, 1) := by decide +kernel
theorem dX4_isSingle_1 : decode cX4_isSingle 1 = .ok (.bipush 59, 2) := by decide +kernel
theorem dX4_isSingle_3 : decode cX4_isSingle 3 = .ok (.if_icmp .eq 33, 3) := by decide +kernel
theorem dX4_isSingle_6 : decode cX4_isSingle 6 = .ok (.iload_n 0, 1) := by decide +kernel
theorem dX4_isSingle_7 : decode cX4_isSingle 7 = .ok (.bipush 61, 2) := by decide +kernel
theorem dX4_isSingle_9 : decode cX4_isSingle 9 = .ok (.if_icmp .eq 27, 3) := by decide +kernel
theorem dX4_isSingle_12 : decode cX4_isSingle 12 = .ok (.iload_n 0, 1) := by decide +kernel
theorem dX4_isSingle_13 : decode cX4_isSingle 13 = .ok (.bipush 43, 2) := by decide +kernel
theorem dX4_isSingle_15 : decode cX4_isSingle 15 = .ok (.if_icmp .eq 21, 3) := by decide +kernel
theorem dX4_isSingle_18 : decode cX4_isSingle 18 = .ok (.iload_n 0, 1) := by decide +kernel
theorem dX4_isSingle_19 : decode cX4_isSingle 19 = .ok (.bipush 45, 2) := by decide +kernel
theorem dX4_isSingle_21 : decode cX4_isSingle 21 = .ok (.if_icmp .eq 15, 3) := by decide +kernel
theorem dX4_isSingle_24 : decode cX4_isSingle 24 = .ok (.iload_n 0, 1) := by decide +kernel
theorem dX4_isSingle_25 : decode cX4_isSingle 25 = .ok (.bipush 42, 2) := by decide +kernel
theorem dX4_isSingle_27 : decode cX4_isSingle 27 = .ok (.if_icmp .eq 9, 3) := by decide +kernel
theorem dX4_isSingle_30 : decode cX4_isSingle 30 = .ok (.iload_n 0, 1) := by decide +kernel
theorem dX4_isSingle_31 : decode cX4_isSingle 31 = .ok (.bipush 60, 2) := by decide +kernel
theorem dX4_isSingle_33 : decode cX4_isSingle 33 = .ok (.if_icmp .ne 7, 3) := by decide +kernel
theorem dX4_isSingle_36 : decode cX4_isSingle 36 = .ok (.iconst 1, 1) := by decide +kernel
theorem dX4_isSingle_37 : decode cX4_isSingle 37 = .ok (.goto 4, 3) := by decide +kernel
theorem dX4_isSingle_40 : decode cX4_isSingle 40 = .ok (.iconst 0, 1) := by decide +kernel
theorem dX4_isSingle_41 : decode cX4_isSingle 41 = .ok (.ireturn, 1) := by decide +kernel
theorem dX5_init_0 : decode cX5_init 0 = .ok (.aload_n 0, 1) := by decide +kernel
theorem dX5_init_1 : decode cX5_init 1 = .ok (.invokespecial 3, 3) := by decide +kernel
theorem dX5_init_4 : decode cX5_init 4 = .ok (.aload_n 0, 1) := by decide +kernel
theorem dX5_init_5 : decode cX5_init 5 = .ok (.bipush 15, 2) := by decide +kernel
theorem dX5_init_7 : decode cX5_init 7 = .ok (.newarray .long, 2) := by decide +kernel
theorem dX5_init_9 : decode cX5_init 9 = .ok (.putfield 9, 3) := by decide +kernel
theorem dX5_init_12 : decode cX5_init 12 = .ok (.aload_n 0, 1) := by decide +kernel
theorem dX5_init_13 : decode cX5_init 13 = .ok (.bipush 15, 2) := by decide +kernel
theorem dX5_init_15 : decode cX5_init 15 = .ok (.newarray .long, 2) := by decide +kernel
theorem dX5_init_17 : decode cX5_init 17 = .ok (.putfield 15, 3) := by decide +kernel
theorem dX5_init_20 : decode cX5_init 20 = .ok (.return_, 1) := by decide +kernel
theorem dX5_reckonAt_0 : decode cX5_reckonAt 0 = .ok (.iconst 0, 1) := by decide +kernel
theorem dX5_reckonAt_1 : decode cX5_reckonAt 1 = .ok (.istore 4, 2) := by decide +kernel
theorem dX5_reckonAt_3 : decode cX5_reckonAt 3 = .ok (.iload 4, 2) := by decide +kernel
theorem dX5_reckonAt_5 : decode cX5_reckonAt 5 = .ok (.iload_n 3, 1) := by decide +kernel
theorem dX5_reckonAt_6 : decode cX5_reckonAt 6 = .ok (.if_icmp .gt 105, 3) := by decide +kernel
theorem dX5_reckonAt_9 : decode cX5_reckonAt 9 = .ok (.aload_n 1, 1) := by decide +kernel
theorem dX5_reckonAt_10 : decode cX5_reckonAt 10 = .ok (.iload_n 3, 1) := by decide +kernel
theorem dX5_reckonAt_11 : decode cX5_reckonAt 11 = .ok (.iload 4, 2) := by decide +kernel
theorem dX5_reckonAt_13 : decode cX5_reckonAt 13 = .ok (.invokevirtual 18, 3) := by decide +kernel
theorem dX5_reckonAt_16 : decode cX5_reckonAt 16 = .ok (.ifCond .ne 6, 3) := by decide +kernel
theorem dX5_reckonAt_19 : decode cX5_reckonAt 19 = .ok (.goto 86, 3) := by decide +kernel
theorem dX5_reckonAt_22 : decode cX5_reckonAt 22 = .ok (.aload_n 1, 1) := by decide +kernel
theorem dX5_reckonAt_23 : decode cX5_reckonAt 23 = .ok (.getfield 24, 3) := by decide +kernel
theorem dX5_reckonAt_26 : decode cX5_reckonAt 26 = .ok (.iload 4, 2) := by decide +kernel
theorem dX5_reckonAt_28 : decode cX5_reckonAt 28 = .ok (.iaload, 1) := by decide +kernel
theorem dX5_reckonAt_29 : decode cX5_reckonAt 29 = .ok (.bipush (-2), 2) := by decide +kernel
theorem dX5_reckonAt_31 : decode cX5_reckonAt 31 = .ok (.if_icmp .ne 30, 3) := by decide +kernel
theorem dX5_reckonAt_34 : decode cX5_reckonAt 34 = .ok (.aload_n 0, 1) := by decide +kernel
theorem dX5_reckonAt_35 : decode cX5_reckonAt 35 = .ok (.getfield 9, 3) := by decide +kernel
theorem dX5_reckonAt_38 : decode cX5_reckonAt 38 = .ok (.iload 4, 2) := by decide +kernel
theorem dX5_reckonAt_40 : decode cX5_reckonAt 40 = .ok (.aload_n 2, 1) := by decide +kernel
theorem dX5_reckonAt_41 : decode cX5_reckonAt 41 = .ok (.iload 4, 2) := by decide +kernel
theorem dX5_reckonAt_43 : decode cX5_reckonAt 43 = .ok (.iaload, 1) := by decide +kernel
theorem dX5_reckonAt_44 : decode cX5_reckonAt 44 = .ok (.i2l, 1) := by decide +kernel
theorem dX5_reckonAt_45 : decode cX5_reckonAt 45 = .ok (.lastore, 1) := by decide +kernel
theorem dX5_reckonAt_46 : decode cX5_reckonAt 46 = .ok (.aload_n 0, 1) := by decide +kernel
theorem dX5_reckonAt_47 : decode cX5_reckonAt 47 = .ok (.getfield 15, 3) := by decide +kernel
theorem dX5_reckonAt_50 : decode cX5_reckonAt 50 = .ok (.iload 4, 2) := by decide +kernel
theorem dX5_reckonAt_52 : decode cX5_reckonAt 52 = .ok (.aload_n 2, 1) := by decide +kernel
theorem dX5_reckonAt_53 : decode cX5_reckonAt 53 = .ok (.iload 4, 2) := by decide +kernel
theorem dX5_reckonAt_55 : decode cX5_reckonAt 55 = .ok (.iaload, 1) := by decide +kernel
theorem dX5_reckonAt_56 : decode cX5_reckonAt 56 = .ok (.i2l, 1) := by decide +kernel
theorem dX5_reckonAt_57 : decode cX5_reckonAt 57 = .ok (.lastore, 1) := by decide +kernel
theorem dX5_reckonAt_58 : decode cX5_reckonAt 58 = .ok (.goto 47, 3) := by decide +kernel
theorem dX5_reckonAt_61 : decode cX5_reckonAt 61 = .ok (.aload_n 0, 1) := by decide +kernel
theorem dX5_reckonAt_62 : decode cX5_reckonAt 62 = .ok (.getfield 9, 3) := by decide +kernel
theorem dX5_reckonAt_65 : decode cX5_reckonAt 65 = .ok (.iload 4, 2) := by decide +kernel
theorem dX5_reckonAt_67 : decode cX5_reckonAt 67 = .ok (.aload_n 1, 1) := by decide +kernel
theorem dX5_reckonAt_68 : decode cX5_reckonAt 68 = .ok (.iload 4, 2) := by decide +kernel
theorem dX5_reckonAt_70 : decode cX5_reckonAt 70 = .ok (.aload_n 0, 1) := by decide +kernel
theorem dX5_reckonAt_71 : decode cX5_reckonAt 71 = .ok (.getfield 9, 3) := by decide +kernel
theorem dX5_reckonAt_74 : decode cX5_reckonAt 74 = .ok (.invokestatic 28, 3) := by decide +kernel
theorem dX5_reckonAt_77 : decode cX5_reckonAt 77 = .ok (.lastore, 1) := by decide +kernel
theorem dX5_reckonAt_78 : decode cX5_reckonAt 78 = .ok (.aload_n 0, 1) := by decide +kernel
theorem dX5_reckonAt_79 : decode cX5_reckonAt 79 = .ok (.getfield 15, 3) := by decide +kernel
theorem dX5_reckonAt_82 : decode cX5_reckonAt 82 = .ok (.iload 4, 2) := by decide +kernel
theorem dX5_reckonAt_84 : decode cX5_reckonAt 84 = .ok (.aload_n 1, 1) := by decide +kernel
theorem dX5_reckonAt_85 : decode cX5_reckonAt 85 = .ok (.iload 4, 2) := by decide +kernel
theorem dX5_reckonAt_87 : decode cX5_reckonAt 87 = .ok (.aload_n 0, 1) := by decide +kernel
theorem dX5_reckonAt_88 : decode cX5_reckonAt 88 = .ok (.getfield 15, 3) := by decide +kernel
theorem dX5_reckonAt_91 : decode cX5_reckonAt 91 = .ok (.invokestatic 28, 3) := by decide +kernel
theorem dX5_reckonAt_94 : decode cX5_reckonAt 94 = .ok (.aload_n 1, 1) := by decide +kernel
theorem dX5_reckonAt_95 : decode cX5_reckonAt 95 = .ok (.getfield 32, 3) := by decide +kernel
theorem dX5_reckonAt_98 : decode cX5_reckonAt 98 = .ok (.iload 4, 2) := by decide +kernel
theorem dX5_reckonAt_100 : decode cX5_reckonAt 100 = .ok (.iaload, 1) := by decide +kernel
theorem dX5_reckonAt_101 : decode cX5_reckonAt 101 = .ok (.invokestatic 35, 3) := by decide +kernel
theorem dX5_reckonAt_104 : decode cX5_reckonAt 104 = .ok (.lastore, 1) := by decide +kernel
theorem dX5_reckonAt_105 : decode cX5_reckonAt 105 = .ok (.iinc 4 1, 3) := by decide +kernel
theorem dX5_reckonAt_108 : decode cX5_reckonAt 108 = .ok (.goto (-105), 3) := by decide +kernel
theorem dX5_reckonAt_111 : decode cX5_reckonAt 111 = .ok (.return_, 1) := by decide +kernel
theorem dX5_errorSize_0 : decode cX5_errorSize 0 = .ok (.aload_n 0, 1) := by decide +kernel
theorem dX5_errorSize_1 : decode cX5_errorSize 1 = .ok (.getfield 15, 3) := by decide +kernel
theorem dX5_errorSize_4 : decode cX5_errorSize 4 = .ok (.iload_n 1, 1) := by decide +kernel
theorem dX5_errorSize_5 : decode cX5_errorSize 5 = .ok (.laload, 1) := by decide +kernel
theorem dX5_errorSize_6 : decode cX5_errorSize 6 = .ok (.aload_n 0, 1) := by decide +kernel
theorem dX5_errorSize_7 : decode cX5_errorSize 7 = .ok (.getfield 9, 3) := by decide +kernel
theorem dX5_errorSize_10 : decode cX5_errorSize 10 = .ok (.iload_n 1, 1) := by decide +kernel
theorem dX5_errorSize_11 : decode cX5_errorSize 11 = .ok (.laload, 1) := by decide +kernel
theorem dX5_errorSize_12 : decode cX5_errorSize 12 = .ok (.lsub, 1) := by decide +kernel
theorem dX5_errorSize_13 : decode cX5_errorSize 13 = .ok (.invokestatic 39, 3) := by decide +kernel
theorem dX5_errorSize_16 : decode cX5_errorSize 16 = .ok (.lreturn, 1) := by decide +kernel
theorem dX5_ways_0 : decode cX5_ways 0 = .ok (.aload_n 1, 1) := by decide +kernel
theorem dX5_ways_1 : decode cX5_ways 1 = .ok (.iload_n 2, 1) := by decide +kernel
theorem dX5_ways_2 : decode cX5_ways 2 = .ok (.aload_n 0, 1) := by decide +kernel
theorem dX5_ways_3 : decode cX5_ways 3 = .ok (.getfield 9, 3) := by decide +kernel
theorem dX5_ways_6 : decode cX5_ways 6 = .ok (.invokestatic 45, 3) := by decide +kernel
theorem dX5_ways_9 : decode cX5_ways 9 = .ok (.ifCond .eq 7, 3) := by decide +kernel
theorem dX5_ways_12 : decode cX5_ways 12 = .ok (.iconst 1, 1) := by decide +kernel
theorem dX5_ways_13 : decode cX5_ways 13 = .ok (.goto 4, 3) := by decide +kernel
theorem dX5_ways_16 : decode cX5_ways 16 = .ok (.iconst 0, 1) := by decide +kernel
theorem dX5_ways_17 : decode cX5_ways 17 = .ok (.aload_n 1, 1) := by decide +kernel
theorem dX5_ways_18 : decode cX5_ways 18 = .ok (.iload_n 2, 1) := by decide +kernel
theorem dX5_ways_19 : decode cX5_ways 19 = .ok (.aload_n 0, 1) := by decide +kernel
theorem dX5_ways_20 : decode cX5_ways 20 = .ok (.getfield 15, 3) := by decide +kernel
theorem dX5_ways_23 : decode cX5_ways 23 = .ok (.invokestatic 45, 3) := by decide +kernel
theorem dX5_ways_26 : decode cX5_ways 26 = .ok (.ifCond .eq 7, 3) := by decide +kernel
theorem dX5_ways_29 : decode cX5_ways 29 = .ok (.iconst 2, 1) := by decide +kernel
theorem dX5_ways_30 : decode cX5_ways 30 = .ok (.goto 4, 3) := by decide +kernel
theorem dX5_ways_33 : decode cX5_ways 33 = .ok (.iconst 0, 1) := by decide +kernel
theorem dX5_ways_34 : decode cX5_ways 34 = .ok (.iadd, 1) := by decide +kernel
theorem dX5_ways_35 : decode cX5_ways 35 = .ok (.ireturn, 1) := by decide +kernel
theorem dX5_goesThen_0 : decode cX5_goesThen 0 = .ok (.aload_n 0, 1) := by decide +kernel
theorem dX5_goesThen_1 : decode cX5_goesThen 1 = .ok (.aload_n 2, 1) := by decide +kernel
theorem dX5_goesThen_2 : decode cX5_goesThen 2 = .ok (.iload_n 1, 1) := by decide +kernel
theorem dX5_goesThen_3 : decode cX5_goesThen 3 = .ok (.iconst 0, 1) := by decide +kernel
theorem dX5_goesThen_4 : decode cX5_goesThen 4 = .ok (.invokevirtual 49, 3) := by decide +kernel
theorem dX5_goesThen_7 : decode cX5_goesThen 7 = .ok (.aload_n 0, 1) := by decide +kernel
theorem dX5_goesThen_8 : decode cX5_goesThen 8 = .ok (.aload_n 2, 1) := by decide +kernel
theorem dX5_goesThen_9 : decode cX5_goesThen 9 = .ok (.iload_n 1, 1) := by decide +kernel
theorem dX5_goesThen_10 : decode cX5_goesThen 10 = .ok (.iconst 1, 1) := by decide +kernel
theorem dX5_goesThen_11 : decode cX5_goesThen 11 = .ok (.invokevirtual 49, 3) := by decide +kernel
theorem dX5_goesThen_14 : decode cX5_goesThen 14 = .ok (.lcmp, 1) := by decide +kernel
theorem dX5_goesThen_15 : decode cX5_goesThen 15 = .ok (.ifCond .ge 7, 3) := by decide +kernel
theorem dX5_goesThen_18 : decode cX5_goesThen 18 = .ok (.iconst 1, 1) := by decide +kernel
theorem dX5_goesThen_19 : decode cX5_goesThen 19 = .ok (.goto 4, 3) := by decide +kernel
theorem dX5_goesThen_22 : decode cX5_goesThen 22 = .ok (.iconst 0, 1) := by decide +kernel
theorem dX5_goesThen_23 : decode cX5_goesThen 23 = .ok (.ireturn, 1) := by decide +kernel
theorem dX5_unrounded_0 : decode cX5_unrounded 0 = .ok (.aload_n 0, 1) := by decide +kernel
theorem dX5_unrounded_1 : decode cX5_unrounded 1 = .ok (.aload_n 2, 1) := by decide +kernel
theorem dX5_unrounded_2 : decode cX5_unrounded 2 = .ok (.iload_n 1, 1) := by decide +kernel
theorem dX5_unrounded_3 : decode cX5_unrounded 3 = .ok (.iconst 0, 1) := by decide +kernel
theorem dX5_unrounded_4 : decode cX5_unrounded 4 = .ok (.invokevirtual 49, 3) := by decide +kernel
theorem dX5_unrounded_7 : decode cX5_unrounded 7 = .ok (.lstore_n 3, 1) := by decide +kernel
theorem dX5_unrounded_8 : decode cX5_unrounded 8 = .ok (.aload_n 0, 1) := by decide +kernel
theorem dX5_unrounded_9 : decode cX5_unrounded 9 = .ok (.aload_n 2, 1) := by decide +kernel
theorem dX5_unrounded_10 : decode cX5_unrounded 10 = .ok (.iload_n 1, 1) := by decide +kernel
theorem dX5_unrounded_11 : decode cX5_unrounded 11 = .ok (.iconst 1, 1) := by decide +kernel
theorem dX5_unrounded_12 : decode cX5_unrounded 12 = .ok (.invokevirtual 49, 3) := by decide +kernel
theorem dX5_unrounded_15 : decode cX5_unrounded 15 = .ok (.lstore 5, 2) := by decide +kernel
theorem dX5_unrounded_17 : decode cX5_unrounded 17 = .ok (.aload_n 0, 1) := by decide +kernel
theorem dX5_unrounded_18 : decode cX5_unrounded 18 = .ok (.getfield 24, 3) := by decide +kernel
theorem dX5_unrounded_21 : decode cX5_unrounded 21 = .ok (.iload_n 1, 1) := by decide +kernel
theorem dX5_unrounded_22 : decode cX5_unrounded 22 = .ok (.iaload, 1) := by decide +kernel
theorem dX5_unrounded_23 : decode cX5_unrounded 23 = .ok (.tableswitch 40 0 2 #[25, 30, 35], 25) := by decide +kernel
theorem dX5_unrounded_48 : decode cX5_unrounded 48 = .ok (.lload_n 3, 1) := by decide +kernel
theorem dX5_unrounded_49 : decode cX5_unrounded 49 = .ok (.lload 5, 2) := by decide +kernel
theorem dX5_unrounded_51 : decode cX5_unrounded 51 = .ok (.ladd, 1) := by decide +kernel
theorem dX5_unrounded_52 : decode cX5_unrounded 52 = .ok (.lreturn, 1) := by decide +kernel
theorem dX5_unrounded_53 : decode cX5_unrounded 53 = .ok (.lload_n 3, 1) := by decide +kernel
theorem dX5_unrounded_54 : decode cX5_unrounded 54 = .ok (.lload 5, 2) := by decide +kernel
theorem dX5_unrounded_56 : decode cX5_unrounded 56 = .ok (.lsub, 1) := by decide +kernel
theorem dX5_unrounded_57 : decode cX5_unrounded 57 = .ok (.lreturn, 1) := by decide +kernel
theorem dX5_unrounded_58 : decode cX5_unrounded 58 = .ok (.lload_n 3, 1) := by decide +kernel
theorem dX5_unrounded_59 : decode cX5_unrounded 59 = .ok (.lload 5, 2) := by decide +kernel
theorem dX5_unrounded_61 : decode cX5_unrounded 61 = .ok (.lmul, 1) := by decide +kernel
theorem dX5_unrounded_62 : decode cX5_unrounded 62 = .ok (.lreturn, 1) := by decide +kernel
theorem dX5_unrounded_63 : decode cX5_unrounded 63 = .ok (.aload_n 0, 1) := by decide +kernel
theorem dX5_unrounded_64 : decode cX5_unrounded 64 = .ok (.aload_n 2, 1) := by decide +kernel
theorem dX5_unrounded_65 : decode cX5_unrounded 65 = .ok (.iload_n 1, 1) := by decide +kernel
theorem dX5_unrounded_66 : decode cX5_unrounded 66 = .ok (.lload_n 3, 1) := by decide +kernel
theorem dX5_unrounded_67 : decode cX5_unrounded 67 = .ok (.lload 5, 2) := by decide +kernel
theorem dX5_unrounded_69 : decode cX5_unrounded 69 = .ok (.lcmp, 1) := by decide +kernel
theorem dX5_unrounded_70 : decode cX5_unrounded 70 = .ok (.ifCond .ge 7, 3) := by decide +kernel
theorem dX5_unrounded_73 : decode cX5_unrounded 73 = .ok (.iconst 2, 1) := by decide +kernel
theorem dX5_unrounded_74 : decode cX5_unrounded 74 = .ok (.goto 4, 3) := by decide +kernel
theorem dX5_unrounded_77 : decode cX5_unrounded 77 = .ok (.iconst 3, 1) := by decide +kernel
theorem dX5_unrounded_78 : decode cX5_unrounded 78 = .ok (.invokevirtual 49, 3) := by decide +kernel
theorem dX5_unrounded_81 : decode cX5_unrounded 81 = .ok (.lreturn, 1) := by decide +kernel
theorem dX5_rounded_0 : decode cX5_rounded 0 = .ok (.lconst 1, 1) := by decide +kernel
theorem dX5_rounded_1 : decode cX5_rounded 1 = .ok (.iload_n 2, 1) := by decide +kernel
theorem dX5_rounded_2 : decode cX5_rounded 2 = .ok (.lshl, 1) := by decide +kernel
theorem dX5_rounded_3 : decode cX5_rounded 3 = .ok (.lstore_n 3, 1) := by decide +kernel
theorem dX5_rounded_4 : decode cX5_rounded 4 = .ok (.lload_n 0, 1) := by decide +kernel
theorem dX5_rounded_5 : decode cX5_rounded 5 = .ok (.lload_n 3, 1) := by decide +kernel
theorem dX5_rounded_6 : decode cX5_rounded 6 = .ok (.lconst 1, 1) := by decide +kernel
theorem dX5_rounded_7 : decode cX5_rounded 7 = .ok (.lsub, 1) := by decide +kernel
theorem dX5_rounded_8 : decode cX5_rounded 8 = .ok (.land, 1) := by decide +kernel
theorem dX5_rounded_9 : decode cX5_rounded 9 = .ok (.lstore 5, 2) := by decide +kernel
theorem dX5_rounded_11 : decode cX5_rounded 11 = .ok (.lload_n 0, 1) := by decide +kernel
theorem dX5_rounded_12 : decode cX5_rounded 12 = .ok (.lload 5, 2) := by decide +kernel
theorem dX5_rounded_14 : decode cX5_rounded 14 = .ok (.lsub, 1) := by decide +kernel
theorem dX5_rounded_15 : decode cX5_rounded 15 = .ok (.lstore 7, 2) := by decide +kernel
theorem dX5_rounded_17 : decode cX5_rounded 17 = .ok (.lload 7, 2) := by decide +kernel
theorem dX5_rounded_19 : decode cX5_rounded 19 = .ok (.lload_n 3, 1) := by decide +kernel
theorem dX5_rounded_20 : decode cX5_rounded 20 = .ok (.land, 1) := by decide +kernel
theorem dX5_rounded_21 : decode cX5_rounded 21 = .ok (.lconst 0, 1) := by decide +kernel
theorem dX5_rounded_22 : decode cX5_rounded 22 = .ok (.lcmp, 1) := by decide +kernel
theorem dX5_rounded_23 : decode cX5_rounded 23 = .ok (.ifCond .eq 7, 3) := by decide +kernel
theorem dX5_rounded_26 : decode cX5_rounded 26 = .ok (.iconst 1, 1) := by decide +kernel
theorem dX5_rounded_27 : decode cX5_rounded 27 = .ok (.goto 4, 3) := by decide +kernel
theorem dX5_rounded_30 : decode cX5_rounded 30 = .ok (.iconst 0, 1) := by decide +kernel
theorem dX5_rounded_31 : decode cX5_rounded 31 = .ok (.istore 9, 2) := by decide +kernel
theorem dX5_rounded_33 : decode cX5_rounded 33 = .ok (.ldc2_w 53, 3) := by decide +kernel
theorem dX5_rounded_36 : decode cX5_rounded 36 = .ok (.lload 5, 2) := by decide +kernel
theorem dX5_rounded_38 : decode cX5_rounded 38 = .ok (.lmul, 1) := by decide +kernel
theorem dX5_rounded_39 : decode cX5_rounded 39 = .ok (.lload_n 3, 1) := by decide +kernel
theorem dX5_rounded_40 : decode cX5_rounded 40 = .ok (.lcmp, 1) := by decide +kernel
theorem dX5_rounded_41 : decode cX5_rounded 41 = .ok (.ifCond .gt 19, 3) := by decide +kernel
theorem dX5_rounded_44 : decode cX5_rounded 44 = .ok (.ldc2_w 53, 3) := by decide +kernel
theorem dX5_rounded_47 : decode cX5_rounded 47 = .ok (.lload 5, 2) := by decide +kernel
theorem dX5_rounded_49 : decode cX5_rounded 49 = .ok (.lmul, 1) := by decide +kernel
theorem dX5_rounded_50 : decode cX5_rounded 50 = .ok (.lload_n 3, 1) := by decide +kernel
theorem dX5_rounded_51 : decode cX5_rounded 51 = .ok (.lcmp, 1) := by decide +kernel
theorem dX5_rounded_52 : decode cX5_rounded 52 = .ok (.ifCond .ne 13, 3) := by decide +kernel
theorem dX5_rounded_55 : decode cX5_rounded 55 = .ok (.iload 9, 2) := by decide +kernel
theorem dX5_rounded_57 : decode cX5_rounded 57 = .ok (.ifCond .eq 8, 3) := by decide +kernel
theorem dX5_rounded_60 : decode cX5_rounded 60 = .ok (.lload 7, 2) := by decide +kernel
theorem dX5_rounded_62 : decode cX5_rounded 62 = .ok (.lload_n 3, 1) := by decide +kernel
theorem dX5_rounded_63 : decode cX5_rounded 63 = .ok (.ladd, 1) := by decide +kernel
theorem dX5_rounded_64 : decode cX5_rounded 64 = .ok (.lreturn, 1) := by decide +kernel
theorem dX5_rounded_65 : decode cX5_rounded 65 = .ok (.lload 7, 2) := by decide +kernel
theorem dX5_rounded_67 : decode cX5_rounded 67 = .ok (.lreturn, 1) := by decide +kernel
theorem dX6_init_0 : decode cX6_init 0 = .ok (.aload_n 0, 1) := by decide +kernel
theorem dX6_init_1 : decode cX6_init 1 = .ok (.invokespecial 3, 3) := by decide +kernel
theorem dX6_init_4 : decode cX6_init 4 = .ok (.aload_n 0, 1) := by decide +kernel
theorem dX6_init_5 : decode cX6_init 5 = .ok (.bipush 15, 2) := by decide +kernel
theorem dX6_init_7 : decode cX6_init 7 = .ok (.newarray .int, 2) := by decide +kernel
theorem dX6_init_9 : decode cX6_init 9 = .ok (.putfield 9, 3) := by decide +kernel
theorem dX6_init_12 : decode cX6_init 12 = .ok (.aload_n 0, 1) := by decide +kernel
theorem dX6_init_13 : decode cX6_init 13 = .ok (.bipush 15, 2) := by decide +kernel
theorem dX6_init_15 : decode cX6_init 15 = .ok (.newarray .int, 2) := by decide +kernel
theorem dX6_init_17 : decode cX6_init 17 = .ok (.putfield 15, 3) := by decide +kernel
theorem dX6_init_20 : decode cX6_init 20 = .ok (.aload_n 0, 1) := by decide +kernel
theorem dX6_init_21 : decode cX6_init 21 = .ok (.new 18, 3) := by decide +kernel
theorem dX6_init_24 : decode cX6_init 24 = .ok (.dup, 1) := by decide +kernel
theorem dX6_init_25 : decode cX6_init 25 = .ok (.invokespecial 20, 3) := by decide +kernel
theorem dX6_init_28 : decode cX6_init 28 = .ok (.putfield 21, 3) := by decide +kernel
theorem dX6_init_31 : decode cX6_init 31 = .ok (.return_, 1) := by decide +kernel
theorem dX6_seek_0 : decode cX6_seek 0 = .ok (.aload_n 0, 1) := by decide +kernel
theorem dX6_seek_1 : decode cX6_seek 1 = .ok (.iload 4, 2) := by decide +kernel
theorem dX6_seek_3 : decode cX6_seek 3 = .ok (.putfield 25, 3) := by decide +kernel
theorem dX6_seek_6 : decode cX6_seek 6 = .ok (.aload_n 0, 1) := by decide +kernel
theorem dX6_seek_7 : decode cX6_seek 7 = .ok (.ldc2_w 29, 3) := by decide +kernel
theorem dX6_seek_10 : decode cX6_seek 10 = .ok (.putfield 31, 3) := by decide +kernel
theorem dX6_seek_13 : decode cX6_seek 13 = .ok (.iconst 0, 1) := by decide +kernel
theorem dX6_seek_14 : decode cX6_seek 14 = .ok (.istore 5, 2) := by decide +kernel
theorem dX6_seek_16 : decode cX6_seek 16 = .ok (.iload 5, 2) := by decide +kernel
theorem dX6_seek_18 : decode cX6_seek 18 = .ok (.iload_n 3, 1) := by decide +kernel
theorem dX6_seek_19 : decode cX6_seek 19 = .ok (.if_icmp .ge 53, 3) := by decide +kernel
theorem dX6_seek_22 : decode cX6_seek 22 = .ok (.aload_n 0, 1) := by decide +kernel
theorem dX6_seek_23 : decode cX6_seek 23 = .ok (.aload_n 1, 1) := by decide +kernel
theorem dX6_seek_24 : decode cX6_seek 24 = .ok (.invokevirtual 35, 3) := by decide +kernel
theorem dX6_seek_27 : decode cX6_seek 27 = .ok (.aload_n 0, 1) := by decide +kernel
theorem dX6_seek_28 : decode cX6_seek 28 = .ok (.aload_n 1, 1) := by decide +kernel
theorem dX6_seek_29 : decode cX6_seek 29 = .ok (.iload_n 2, 1) := by decide +kernel
theorem dX6_seek_30 : decode cX6_seek 30 = .ok (.invokevirtual 39, 3) := by decide +kernel
theorem dX6_seek_33 : decode cX6_seek 33 = .ok (.lstore 6, 2) := by decide +kernel
theorem dX6_seek_35 : decode cX6_seek 35 = .ok (.lload 6, 2) := by decide +kernel
theorem dX6_seek_37 : decode cX6_seek 37 = .ok (.aload_n 0, 1) := by decide +kernel
theorem dX6_seek_38 : decode cX6_seek 38 = .ok (.getfield 31, 3) := by decide +kernel
theorem dX6_seek_41 : decode cX6_seek 41 = .ok (.lcmp, 1) := by decide +kernel
theorem dX6_seek_42 : decode cX6_seek 42 = .ok (.ifCond .le 24, 3) := by decide +kernel
theorem dX6_seek_45 : decode cX6_seek 45 = .ok (.aload_n 0, 1) := by decide +kernel
theorem dX6_seek_46 : decode cX6_seek 46 = .ok (.lload 6, 2) := by decide +kernel
theorem dX6_seek_48 : decode cX6_seek 48 = .ok (.putfield 31, 3) := by decide +kernel
theorem dX6_seek_51 : decode cX6_seek 51 = .ok (.aload_n 0, 1) := by decide +kernel
theorem dX6_seek_52 : decode cX6_seek 52 = .ok (.getfield 15, 3) := by decide +kernel
theorem dX6_seek_55 : decode cX6_seek 55 = .ok (.iconst 0, 1) := by decide +kernel
theorem dX6_seek_56 : decode cX6_seek 56 = .ok (.aload_n 0, 1) := by decide +kernel
theorem dX6_seek_57 : decode cX6_seek 57 = .ok (.getfield 9, 3) := by decide +kernel
theorem dX6_seek_60 : decode cX6_seek 60 = .ok (.iconst 0, 1) := by decide +kernel
theorem dX6_seek_61 : decode cX6_seek 61 = .ok (.bipush 15, 2) := by decide +kernel
theorem dX6_seek_63 : decode cX6_seek 63 = .ok (.invokestatic 43, 3) := by decide +kernel
theorem dX6_seek_66 : decode cX6_seek 66 = .ok (.iinc 5 1, 3) := by decide +kernel
theorem dX6_seek_69 : decode cX6_seek 69 = .ok (.goto (-53), 3) := by decide +kernel
theorem dX6_seek_72 : decode cX6_seek 72 = .ok (.return_, 1) := by decide +kernel
theorem dX6_greatestOfAll_0 : decode cX6_greatestOfAll 0 = .ok (.iconst 0, 1) := by decide +kernel
theorem dX6_greatestOfAll_1 : decode cX6_greatestOfAll 1 = .ok (.istore_n 3, 1) := by decide +kernel
theorem dX6_greatestOfAll_2 : decode cX6_greatestOfAll 2 = .ok (.iload_n 3, 1) := by decide +kernel
theorem dX6_greatestOfAll_3 : decode cX6_greatestOfAll 3 = .ok (.aload_n 1, 1) := by decide +kernel
theorem dX6_greatestOfAll_4 : decode cX6_greatestOfAll 4 = .ok (.getfield 49, 3) := by decide +kernel
theorem dX6_greatestOfAll_7 : decode cX6_greatestOfAll 7 = .ok (.if_icmp .ge 31, 3) := by decide +kernel
theorem dX6_greatestOfAll_10 : decode cX6_greatestOfAll 10 = .ok (.aload_n 0, 1) := by decide +kernel
theorem dX6_greatestOfAll_11 : decode cX6_greatestOfAll 11 = .ok (.getfield 15, 3) := by decide +kernel
theorem dX6_greatestOfAll_14 : decode cX6_greatestOfAll 14 = .ok (.aload_n 1, 1) := by decide +kernel
theorem dX6_greatestOfAll_15 : decode cX6_greatestOfAll 15 = .ok (.getfield 54, 3) := by decide +kernel
theorem dX6_greatestOfAll_18 : decode cX6_greatestOfAll 18 = .ok (.iload_n 3, 1) := by decide +kernel
theorem dX6_greatestOfAll_19 : decode cX6_greatestOfAll 19 = .ok (.iaload, 1) := by decide +kernel
theorem dX6_greatestOfAll_20 : decode cX6_greatestOfAll 20 = .ok (.aload_n 1, 1) := by decide +kernel
theorem dX6_greatestOfAll_21 : decode cX6_greatestOfAll 21 = .ok (.getfield 57, 3) := by decide +kernel
theorem dX6_greatestOfAll_24 : decode cX6_greatestOfAll 24 = .ok (.aload_n 1, 1) := by decide +kernel
theorem dX6_greatestOfAll_25 : decode cX6_greatestOfAll 25 = .ok (.getfield 54, 3) := by decide +kernel
theorem dX6_greatestOfAll_28 : decode cX6_greatestOfAll 28 = .ok (.iload_n 3, 1) := by decide +kernel
theorem dX6_greatestOfAll_29 : decode cX6_greatestOfAll 29 = .ok (.iaload, 1) := by decide +kernel
theorem dX6_greatestOfAll_30 : decode cX6_greatestOfAll 30 = .ok (.iaload, 1) := by decide +kernel
theorem dX6_greatestOfAll_31 : decode cX6_greatestOfAll 31 = .ok (.iastore, 1) := by decide +kernel
theorem dX6_greatestOfAll_32 : decode cX6_greatestOfAll 32 = .ok (.iinc 3 1, 3) := by decide +kernel
theorem dX6_greatestOfAll_35 : decode cX6_greatestOfAll 35 = .ok (.goto (-33), 3) := by decide +kernel
theorem dX6_greatestOfAll_38 : decode cX6_greatestOfAll 38 = .ok (.aload_n 0, 1) := by decide +kernel
theorem dX6_greatestOfAll_39 : decode cX6_greatestOfAll 39 = .ok (.aload_n 1, 1) := by decide +kernel
theorem dX6_greatestOfAll_40 : decode cX6_greatestOfAll 40 = .ok (.iload_n 2, 1) := by decide +kernel
theorem dX6_greatestOfAll_41 : decode cX6_greatestOfAll 41 = .ok (.invokevirtual 60, 3) := by decide +kernel
theorem dX6_greatestOfAll_44 : decode cX6_greatestOfAll 44 = .ok (.lstore_n 3, 1) := by decide +kernel
theorem dX6_greatestOfAll_45 : decode cX6_greatestOfAll 45 = .ok (.iconst 0, 1) := by decide +kernel
theorem dX6_greatestOfAll_46 : decode cX6_greatestOfAll 46 = .ok (.istore 5, 2) := by decide +kernel
theorem dX6_greatestOfAll_48 : decode cX6_greatestOfAll 48 = .ok (.iload 5, 2) := by decide +kernel
theorem dX6_greatestOfAll_50 : decode cX6_greatestOfAll 50 = .ok (.i2l, 1) := by decide +kernel
theorem dX6_greatestOfAll_51 : decode cX6_greatestOfAll 51 = .ok (.ldc2_w 63, 3) := by decide +kernel
theorem dX6_greatestOfAll_54 : decode cX6_greatestOfAll 54 = .ok (.lcmp, 1) := by decide +kernel
theorem dX6_greatestOfAll_55 : decode cX6_greatestOfAll 55 = .ok (.ifCond .ge 28, 3) := by decide +kernel
theorem dX6_greatestOfAll_58 : decode cX6_greatestOfAll 58 = .ok (.aload_n 0, 1) := by decide +kernel
theorem dX6_greatestOfAll_59 : decode cX6_greatestOfAll 59 = .ok (.aload_n 1, 1) := by decide +kernel
theorem dX6_greatestOfAll_60 : decode cX6_greatestOfAll 60 = .ok (.invokevirtual 65, 3) := by decide +kernel
theorem dX6_greatestOfAll_63 : decode cX6_greatestOfAll 63 = .ok (.ifCond .eq 20, 3) := by decide +kernel
theorem dX6_greatestOfAll_66 : decode cX6_greatestOfAll 66 = .ok (.lload_n 3, 1) := by decide +kernel
theorem dX6_greatestOfAll_67 : decode cX6_greatestOfAll 67 = .ok (.aload_n 0, 1) := by decide +kernel
theorem dX6_greatestOfAll_68 : decode cX6_greatestOfAll 68 = .ok (.aload_n 1, 1) := by decide +kernel
theorem dX6_greatestOfAll_69 : decode cX6_greatestOfAll 69 = .ok (.iload_n 2, 1) := by decide +kernel
theorem dX6_greatestOfAll_70 : decode cX6_greatestOfAll 70 = .ok (.invokevirtual 60, 3) := by decide +kernel
theorem dX6_greatestOfAll_73 : decode cX6_greatestOfAll 73 = .ok (.invokestatic 69, 3) := by decide +kernel
theorem dX6_greatestOfAll_76 : decode cX6_greatestOfAll 76 = .ok (.lstore_n 3, 1) := by decide +kernel
theorem dX6_greatestOfAll_77 : decode cX6_greatestOfAll 77 = .ok (.iinc 5 1, 3) := by decide +kernel
theorem dX6_greatestOfAll_80 : decode cX6_greatestOfAll 80 = .ok (.goto (-32), 3) := by decide +kernel
theorem dX6_greatestOfAll_83 : decode cX6_greatestOfAll 83 = .ok (.lload_n 3, 1) := by decide +kernel
theorem dX6_greatestOfAll_84 : decode cX6_greatestOfAll 84 = .ok (.lreturn, 1) := by decide +kernel
theorem dX6_firstParting_0 : decode cX6_firstParting 0 = .ok (.aload_n 0, 1) := by decide +kernel
theorem dX6_firstParting_1 : decode cX6_firstParting 1 = .ok (.iload 4, 2) := by decide +kernel
theorem dX6_firstParting_3 : decode cX6_firstParting 3 = .ok (.putfield 25, 3) := by decide +kernel
theorem dX6_firstParting_6 : decode cX6_firstParting 6 = .ok (.iconst 0, 1) := by decide +kernel
theorem dX6_firstParting_7 : decode cX6_firstParting 7 = .ok (.istore 5, 2) := by decide +kernel
theorem dX6_firstParting_9 : decode cX6_firstParting 9 = .ok (.iload 5, 2) := by decide +kernel
theorem dX6_firstParting_11 : decode cX6_firstParting 11 = .ok (.iload_n 3, 1) := by decide +kernel
theorem dX6_firstParting_12 : decode cX6_firstParting 12 = .ok (.if_icmp .ge 53, 3) := by decide +kernel
theorem dX6_firstParting_15 : decode cX6_firstParting 15 = .ok (.aload_n 0, 1) := by decide +kernel
theorem dX6_firstParting_16 : decode cX6_firstParting 16 = .ok (.aload_n 1, 1) := by decide +kernel
theorem dX6_firstParting_17 : decode cX6_firstParting 17 = .ok (.invokevirtual 35, 3) := by decide +kernel
theorem dX6_firstParting_20 : decode cX6_firstParting 20 = .ok (.aload_n 0, 1) := by decide +kernel
theorem dX6_firstParting_21 : decode cX6_firstParting 21 = .ok (.getfield 21, 3) := by decide +kernel
theorem dX6_firstParting_24 : decode cX6_firstParting 24 = .ok (.aload_n 1, 1) := by decide +kernel
theorem dX6_firstParting_25 : decode cX6_firstParting 25 = .ok (.aload_n 0, 1) := by decide +kernel
theorem dX6_firstParting_26 : decode cX6_firstParting 26 = .ok (.getfield 15, 3) := by decide +kernel
theorem dX6_firstParting_29 : decode cX6_firstParting 29 = .ok (.iload_n 2, 1) := by decide +kernel
theorem dX6_firstParting_30 : decode cX6_firstParting 30 = .ok (.invokevirtual 75, 3) := by decide +kernel
theorem dX6_firstParting_33 : decode cX6_firstParting 33 = .ok (.aload_n 0, 1) := by decide +kernel
theorem dX6_firstParting_34 : decode cX6_firstParting 34 = .ok (.getfield 21, 3) := by decide +kernel
theorem dX6_firstParting_37 : decode cX6_firstParting 37 = .ok (.aload_n 1, 1) := by decide +kernel
theorem dX6_firstParting_38 : decode cX6_firstParting 38 = .ok (.iload_n 2, 1) := by decide +kernel
theorem dX6_firstParting_39 : decode cX6_firstParting 39 = .ok (.invokevirtual 79, 3) := by decide +kernel
theorem dX6_firstParting_42 : decode cX6_firstParting 42 = .ok (.istore 6, 2) := by decide +kernel
theorem dX6_firstParting_44 : decode cX6_firstParting 44 = .ok (.iload 6, 2) := by decide +kernel
theorem dX6_firstParting_46 : decode cX6_firstParting 46 = .ok (.iconst 1, 1) := by decide +kernel
theorem dX6_firstParting_47 : decode cX6_firstParting 47 = .ok (.if_icmp .eq 9, 3) := by decide +kernel
theorem dX6_firstParting_50 : decode cX6_firstParting 50 = .ok (.iload 6, 2) := by decide +kernel
theorem dX6_firstParting_52 : decode cX6_firstParting 52 = .ok (.iconst 2, 1) := by decide +kernel
theorem dX6_firstParting_53 : decode cX6_firstParting 53 = .ok (.if_icmp .ne 6, 3) := by decide +kernel
theorem dX6_firstParting_56 : decode cX6_firstParting 56 = .ok (.iload 5, 2) := by decide +kernel
theorem dX6_firstParting_58 : decode cX6_firstParting 58 = .ok (.ireturn, 1) := by decide +kernel
theorem dX6_firstParting_59 : decode cX6_firstParting 59 = .ok (.iinc 5 1, 3) := by decide +kernel
theorem dX6_firstParting_62 : decode cX6_firstParting 62 = .ok (.goto (-53), 3) := by decide +kernel
theorem dX6_firstParting_65 : decode cX6_firstParting 65 = .ok (.bipush (-2), 2) := by decide +kernel
theorem dX6_firstParting_67 : decode cX6_firstParting 67 = .ok (.ireturn, 1) := by decide +kernel
theorem dX6_draw_0 : decode cX6_draw 0 = .ok (.aload_n 0, 1) := by decide +kernel
theorem dX6_draw_1 : decode cX6_draw 1 = .ok (.bipush 75, 2) := by decide +kernel
theorem dX6_draw_3 : decode cX6_draw 3 = .ok (.aload_n 0, 1) := by decide +kernel
theorem dX6_draw_4 : decode cX6_draw 4 = .ok (.getfield 25, 3) := by decide +kernel
theorem dX6_draw_7 : decode cX6_draw 7 = .ok (.imul, 1) := by decide +kernel
theorem dX6_draw_8 : decode cX6_draw 8 = .ok (.bipush 74, 2) := by decide +kernel
theorem dX6_draw_10 : decode cX6_draw 10 = .ok (.iadd, 1) := by decide +kernel
theorem dX6_draw_11 : decode cX6_draw 11 = .ok (.ldc 83, 2) := by decide +kernel
theorem dX6_draw_13 : decode cX6_draw 13 = .ok (.irem, 1) := by decide +kernel
theorem dX6_draw_14 : decode cX6_draw 14 = .ok (.putfield 25, 3) := by decide +kernel
theorem dX6_draw_17 : decode cX6_draw 17 = .ok (.iload_n 1, 1) := by decide +kernel
theorem dX6_draw_18 : decode cX6_draw 18 = .ok (.ifCond .le 12, 3) := by decide +kernel
theorem dX6_draw_21 : decode cX6_draw 21 = .ok (.aload_n 0, 1) := by decide +kernel
theorem dX6_draw_22 : decode cX6_draw 22 = .ok (.getfield 25, 3) := by decide +kernel
theorem dX6_draw_25 : decode cX6_draw 25 = .ok (.iload_n 1, 1) := by decide +kernel
theorem dX6_draw_26 : decode cX6_draw 26 = .ok (.irem, 1) := by decide +kernel
theorem dX6_draw_27 : decode cX6_draw 27 = .ok (.goto 4, 3) := by decide +kernel
theorem dX6_draw_30 : decode cX6_draw 30 = .ok (.iconst 0, 1) := by decide +kernel
theorem dX6_draw_31 : decode cX6_draw 31 = .ok (.ireturn, 1) := by decide +kernel
theorem dX6_drawPoint_0 : decode cX6_drawPoint 0 = .ok (.iconst 0, 1) := by decide +kernel
theorem dX6_drawPoint_1 : decode cX6_drawPoint 1 = .ok (.istore_n 2, 1) := by decide +kernel
theorem dX6_drawPoint_2 : decode cX6_drawPoint 2 = .ok (.iload_n 2, 1) := by decide +kernel
theorem dX6_drawPoint_3 : decode cX6_drawPoint 3 = .ok (.aload_n 1, 1) := by decide +kernel
theorem dX6_drawPoint_4 : decode cX6_drawPoint 4 = .ok (.getfield 49, 3) := by decide +kernel
theorem dX6_drawPoint_7 : decode cX6_drawPoint 7 = .ok (.if_icmp .ge 48, 3) := by decide +kernel
theorem dX6_drawPoint_10 : decode cX6_drawPoint 10 = .ok (.aload_n 1, 1) := by decide +kernel
theorem dX6_drawPoint_11 : decode cX6_drawPoint 11 = .ok (.getfield 54, 3) := by decide +kernel
theorem dX6_drawPoint_14 : decode cX6_drawPoint 14 = .ok (.iload_n 2, 1) := by decide +kernel
theorem dX6_drawPoint_15 : decode cX6_drawPoint 15 = .ok (.iaload, 1) := by decide +kernel
theorem dX6_drawPoint_16 : decode cX6_drawPoint 16 = .ok (.istore_n 3, 1) := by decide +kernel
theorem dX6_drawPoint_17 : decode cX6_drawPoint 17 = .ok (.aload_n 0, 1) := by decide +kernel
theorem dX6_drawPoint_18 : decode cX6_drawPoint 18 = .ok (.getfield 15, 3) := by decide +kernel
theorem dX6_drawPoint_21 : decode cX6_drawPoint 21 = .ok (.iload_n 3, 1) := by decide +kernel
theorem dX6_drawPoint_22 : decode cX6_drawPoint 22 = .ok (.aload_n 1, 1) := by decide +kernel
theorem dX6_drawPoint_23 : decode cX6_drawPoint 23 = .ok (.getfield 57, 3) := by decide +kernel
theorem dX6_drawPoint_26 : decode cX6_drawPoint 26 = .ok (.iload_n 3, 1) := by decide +kernel
theorem dX6_drawPoint_27 : decode cX6_drawPoint 27 = .ok (.iaload, 1) := by decide +kernel
theorem dX6_drawPoint_28 : decode cX6_drawPoint 28 = .ok (.aload_n 0, 1) := by decide +kernel
theorem dX6_drawPoint_29 : decode cX6_drawPoint 29 = .ok (.aload_n 1, 1) := by decide +kernel
theorem dX6_drawPoint_30 : decode cX6_drawPoint 30 = .ok (.getfield 84, 3) := by decide +kernel
theorem dX6_drawPoint_33 : decode cX6_drawPoint 33 = .ok (.iload_n 3, 1) := by decide +kernel
theorem dX6_drawPoint_34 : decode cX6_drawPoint 34 = .ok (.iaload, 1) := by decide +kernel
theorem dX6_drawPoint_35 : decode cX6_drawPoint 35 = .ok (.aload_n 1, 1) := by decide +kernel
theorem dX6_drawPoint_36 : decode cX6_drawPoint 36 = .ok (.getfield 57, 3) := by decide +kernel
theorem dX6_drawPoint_39 : decode cX6_drawPoint 39 = .ok (.iload_n 3, 1) := by decide +kernel
theorem dX6_drawPoint_40 : decode cX6_drawPoint 40 = .ok (.iaload, 1) := by decide +kernel
theorem dX6_drawPoint_41 : decode cX6_drawPoint 41 = .ok (.isub, 1) := by decide +kernel
theorem dX6_drawPoint_42 : decode cX6_drawPoint 42 = .ok (.iconst 1, 1) := by decide +kernel
theorem dX6_drawPoint_43 : decode cX6_drawPoint 43 = .ok (.iadd, 1) := by decide +kernel
theorem dX6_drawPoint_44 : decode cX6_drawPoint 44 = .ok (.invokevirtual 87, 3) := by decide +kernel
theorem dX6_drawPoint_47 : decode cX6_drawPoint 47 = .ok (.iadd, 1) := by decide +kernel
theorem dX6_drawPoint_48 : decode cX6_drawPoint 48 = .ok (.iastore, 1) := by decide +kernel
theorem dX6_drawPoint_49 : decode cX6_drawPoint 49 = .ok (.iinc 2 1, 3) := by decide +kernel
theorem dX6_drawPoint_52 : decode cX6_drawPoint 52 = .ok (.goto (-50), 3) := by decide +kernel
theorem dX6_drawPoint_55 : decode cX6_drawPoint 55 = .ok (.return_, 1) := by decide +kernel
theorem dX6_errorHere_0 : decode cX6_errorHere 0 = .ok (.aload_n 0, 1) := by decide +kernel
theorem dX6_errorHere_1 : decode cX6_errorHere 1 = .ok (.getfield 21, 3) := by decide +kernel
theorem dX6_errorHere_4 : decode cX6_errorHere 4 = .ok (.aload_n 1, 1) := by decide +kernel
theorem dX6_errorHere_5 : decode cX6_errorHere 5 = .ok (.aload_n 0, 1) := by decide +kernel
theorem dX6_errorHere_6 : decode cX6_errorHere 6 = .ok (.getfield 15, 3) := by decide +kernel
theorem dX6_errorHere_9 : decode cX6_errorHere 9 = .ok (.iload_n 2, 1) := by decide +kernel
theorem dX6_errorHere_10 : decode cX6_errorHere 10 = .ok (.invokevirtual 75, 3) := by decide +kernel
theorem dX6_errorHere_13 : decode cX6_errorHere 13 = .ok (.aload_n 0, 1) := by decide +kernel
theorem dX6_errorHere_14 : decode cX6_errorHere 14 = .ok (.getfield 21, 3) := by decide +kernel
theorem dX6_errorHere_17 : decode cX6_errorHere 17 = .ok (.iload_n 2, 1) := by decide +kernel
theorem dX6_errorHere_18 : decode cX6_errorHere 18 = .ok (.invokevirtual 91, 3) := by decide +kernel
theorem dX6_errorHere_21 : decode cX6_errorHere 21 = .ok (.lreturn, 1) := by decide +kernel
theorem dX6_goOn_0 : decode cX6_goOn 0 = .ok (.iconst 0, 1) := by decide +kernel
theorem dX6_goOn_1 : decode cX6_goOn 1 = .ok (.istore_n 2, 1) := by decide +kernel
theorem dX6_goOn_2 : decode cX6_goOn 2 = .ok (.iload_n 2, 1) := by decide +kernel
theorem dX6_goOn_3 : decode cX6_goOn 3 = .ok (.aload_n 1, 1) := by decide +kernel
theorem dX6_goOn_4 : decode cX6_goOn 4 = .ok (.getfield 49, 3) := by decide +kernel
theorem dX6_goOn_7 : decode cX6_goOn 7 = .ok (.if_icmp .ge 55, 3) := by decide +kernel
theorem dX6_goOn_10 : decode cX6_goOn 10 = .ok (.aload_n 1, 1) := by decide +kernel
theorem dX6_goOn_11 : decode cX6_goOn 11 = .ok (.getfield 54, 3) := by decide +kernel
theorem dX6_goOn_14 : decode cX6_goOn 14 = .ok (.iload_n 2, 1) := by decide +kernel
theorem dX6_goOn_15 : decode cX6_goOn 15 = .ok (.iaload, 1) := by decide +kernel
theorem dX6_goOn_16 : decode cX6_goOn 16 = .ok (.istore_n 3, 1) := by decide +kernel
theorem dX6_goOn_17 : decode cX6_goOn 17 = .ok (.aload_n 0, 1) := by decide +kernel
theorem dX6_goOn_18 : decode cX6_goOn 18 = .ok (.getfield 15, 3) := by decide +kernel
theorem dX6_goOn_21 : decode cX6_goOn 21 = .ok (.iload_n 3, 1) := by decide +kernel
theorem dX6_goOn_22 : decode cX6_goOn 22 = .ok (.iaload, 1) := by decide +kernel
theorem dX6_goOn_23 : decode cX6_goOn 23 = .ok (.aload_n 1, 1) := by decide +kernel
theorem dX6_goOn_24 : decode cX6_goOn 24 = .ok (.getfield 84, 3) := by decide +kernel
theorem dX6_goOn_27 : decode cX6_goOn 27 = .ok (.iload_n 3, 1) := by decide +kernel
theorem dX6_goOn_28 : decode cX6_goOn 28 = .ok (.iaload, 1) := by decide +kernel
theorem dX6_goOn_29 : decode cX6_goOn 29 = .ok (.if_icmp .ge 15, 3) := by decide +kernel
theorem dX6_goOn_32 : decode cX6_goOn 32 = .ok (.aload_n 0, 1) := by decide +kernel
theorem dX6_goOn_33 : decode cX6_goOn 33 = .ok (.getfield 15, 3) := by decide +kernel
theorem dX6_goOn_36 : decode cX6_goOn 36 = .ok (.iload_n 3, 1) := by decide +kernel
theorem dX6_goOn_37 : decode cX6_goOn 37 = .ok (.dup2, 1) := by decide +kernel
theorem dX6_goOn_38 : decode cX6_goOn 38 = .ok (.iaload, 1) := by decide +kernel
theorem dX6_goOn_39 : decode cX6_goOn 39 = .ok (.iconst 1, 1) := by decide +kernel
theorem dX6_goOn_40 : decode cX6_goOn 40 = .ok (.iadd, 1) := by decide +kernel
theorem dX6_goOn_41 : decode cX6_goOn 41 = .ok (.iastore, 1) := by decide +kernel
theorem dX6_goOn_42 : decode cX6_goOn 42 = .ok (.iconst 1, 1) := by decide +kernel
theorem dX6_goOn_43 : decode cX6_goOn 43 = .ok (.ireturn, 1) := by decide +kernel
theorem dX6_goOn_44 : decode cX6_goOn 44 = .ok (.aload_n 0, 1) := by decide +kernel
theorem dX6_goOn_45 : decode cX6_goOn 45 = .ok (.getfield 15, 3) := by decide +kernel
theorem dX6_goOn_48 : decode cX6_goOn 48 = .ok (.iload_n 3, 1) := by decide +kernel
theorem dX6_goOn_49 : decode cX6_goOn 49 = .ok (.aload_n 1, 1) := by decide +kernel
theorem dX6_goOn_50 : decode cX6_goOn 50 = .ok (.getfield 57, 3) := by decide +kernel
theorem dX6_goOn_53 : decode cX6_goOn 53 = .ok (.iload_n 3, 1) := by decide +kernel
theorem dX6_goOn_54 : decode cX6_goOn 54 = .ok (.iaload, 1) := by decide +kernel
theorem dX6_goOn_55 : decode cX6_goOn 55 = .ok (.iastore, 1) := by decide +kernel
theorem dX6_goOn_56 : decode cX6_goOn 56 = .ok (.iinc 2 1, 3) := by decide +kernel
theorem dX6_goOn_59 : decode cX6_goOn 59 = .ok (.goto (-57), 3) := by decide +kernel
theorem dX6_goOn_62 : decode cX6_goOn 62 = .ok (.iconst 0, 1) := by decide +kernel
theorem dX6_goOn_63 : decode cX6_goOn 63 = .ok (.ireturn, 1) := by decide +kernel
theorem dX6_climbed_0 : decode cX6_climbed 0 = .ok (.aload_n 0, 1) := by decide +kernel
theorem dX6_climbed_1 : decode cX6_climbed 1 = .ok (.aload_n 1, 1) := by decide +kernel
theorem dX6_climbed_2 : decode cX6_climbed 2 = .ok (.iload_n 2, 1) := by decide +kernel
theorem dX6_climbed_3 : decode cX6_climbed 3 = .ok (.invokevirtual 60, 3) := by decide +kernel
theorem dX6_climbed_6 : decode cX6_climbed 6 = .ok (.lstore_n 3, 1) := by decide +kernel
theorem dX6_climbed_7 : decode cX6_climbed 7 = .ok (.iconst 0, 1) := by decide +kernel
theorem dX6_climbed_8 : decode cX6_climbed 8 = .ok (.istore 5, 2) := by decide +kernel
theorem dX6_climbed_10 : decode cX6_climbed 10 = .ok (.iload 5, 2) := by decide +kernel
theorem dX6_climbed_12 : decode cX6_climbed 12 = .ok (.bipush 40, 2) := by decide +kernel
theorem dX6_climbed_14 : decode cX6_climbed 14 = .ok (.if_icmp .ge 30, 3) := by decide +kernel
theorem dX6_climbed_17 : decode cX6_climbed 17 = .ok (.aload_n 0, 1) := by decide +kernel
theorem dX6_climbed_18 : decode cX6_climbed 18 = .ok (.aload_n 1, 1) := by decide +kernel
theorem dX6_climbed_19 : decode cX6_climbed 19 = .ok (.iload_n 2, 1) := by decide +kernel
theorem dX6_climbed_20 : decode cX6_climbed 20 = .ok (.lload_n 3, 1) := by decide +kernel
theorem dX6_climbed_21 : decode cX6_climbed 21 = .ok (.invokevirtual 95, 3) := by decide +kernel
theorem dX6_climbed_24 : decode cX6_climbed 24 = .ok (.lstore 6, 2) := by decide +kernel
theorem dX6_climbed_26 : decode cX6_climbed 26 = .ok (.lload 6, 2) := by decide +kernel
theorem dX6_climbed_28 : decode cX6_climbed 28 = .ok (.lload_n 3, 1) := by decide +kernel
theorem dX6_climbed_29 : decode cX6_climbed 29 = .ok (.lcmp, 1) := by decide +kernel
theorem dX6_climbed_30 : decode cX6_climbed 30 = .ok (.ifCond .gt 5, 3) := by decide +kernel
theorem dX6_climbed_33 : decode cX6_climbed 33 = .ok (.lload_n 3, 1) := by decide +kernel
theorem dX6_climbed_34 : decode cX6_climbed 34 = .ok (.lreturn, 1) := by decide +kernel
theorem dX6_climbed_35 : decode cX6_climbed 35 = .ok (.lload 6, 2) := by decide +kernel
theorem dX6_climbed_37 : decode cX6_climbed 37 = .ok (.lstore_n 3, 1) := by decide +kernel
theorem dX6_climbed_38 : decode cX6_climbed 38 = .ok (.iinc 5 1, 3) := by decide +kernel
theorem dX6_climbed_41 : decode cX6_climbed 41 = .ok (.goto (-31), 3) := by decide +kernel
theorem dX6_climbed_44 : decode cX6_climbed 44 = .ok (.lload_n 3, 1) := by decide +kernel
theorem dX6_climbed_45 : decode cX6_climbed 45 = .ok (.lreturn, 1) := by decide +kernel
theorem dX6_moved_0 : decode cX6_moved 0 = .ok (.iconst 0, 1) := by decide +kernel
theorem dX6_moved_1 : decode cX6_moved 1 = .ok (.istore 5, 2) := by decide +kernel
theorem dX6_moved_3 : decode cX6_moved 3 = .ok (.iload 5, 2) := by decide +kernel
theorem dX6_moved_5 : decode cX6_moved 5 = .ok (.aload_n 1, 1) := by decide +kernel
theorem dX6_moved_6 : decode cX6_moved 6 = .ok (.getfield 49, 3) := by decide +kernel
theorem dX6_moved_9 : decode cX6_moved 9 = .ok (.if_icmp .ge 152, 3) := by decide +kernel
theorem dX6_moved_12 : decode cX6_moved 12 = .ok (.aload_n 1, 1) := by decide +kernel
theorem dX6_moved_13 : decode cX6_moved 13 = .ok (.getfield 54, 3) := by decide +kernel
theorem dX6_moved_16 : decode cX6_moved 16 = .ok (.iload 5, 2) := by decide +kernel
theorem dX6_moved_18 : decode cX6_moved 18 = .ok (.iaload, 1) := by decide +kernel
theorem dX6_moved_19 : decode cX6_moved 19 = .ok (.istore 6, 2) := by decide +kernel
theorem dX6_moved_21 : decode cX6_moved 21 = .ok (.aload_n 1, 1) := by decide +kernel
theorem dX6_moved_22 : decode cX6_moved 22 = .ok (.iload_n 2, 1) := by decide +kernel
theorem dX6_moved_23 : decode cX6_moved 23 = .ok (.iload 6, 2) := by decide +kernel
theorem dX6_moved_25 : decode cX6_moved 25 = .ok (.invokevirtual 99, 3) := by decide +kernel
theorem dX6_moved_28 : decode cX6_moved 28 = .ok (.ifCond .ne 6, 3) := by decide +kernel
theorem dX6_moved_31 : decode cX6_moved 31 = .ok (.goto 124, 3) := by decide +kernel
theorem dX6_moved_34 : decode cX6_moved 34 = .ok (.aload_n 0, 1) := by decide +kernel
theorem dX6_moved_35 : decode cX6_moved 35 = .ok (.getfield 15, 3) := by decide +kernel
theorem dX6_moved_38 : decode cX6_moved 38 = .ok (.iload 6, 2) := by decide +kernel
theorem dX6_moved_40 : decode cX6_moved 40 = .ok (.iaload, 1) := by decide +kernel
theorem dX6_moved_41 : decode cX6_moved 41 = .ok (.istore 7, 2) := by decide +kernel
theorem dX6_moved_43 : decode cX6_moved 43 = .ok (.sipush 256, 3) := by decide +kernel
theorem dX6_moved_46 : decode cX6_moved 46 = .ok (.istore 8, 2) := by decide +kernel
theorem dX6_moved_48 : decode cX6_moved 48 = .ok (.iload 8, 2) := by decide +kernel
theorem dX6_moved_50 : decode cX6_moved 50 = .ok (.iconst 1, 1) := by decide +kernel
theorem dX6_moved_51 : decode cX6_moved 51 = .ok (.if_icmp .lt 95, 3) := by decide +kernel
theorem dX6_moved_54 : decode cX6_moved 54 = .ok (.iload 7, 2) := by decide +kernel
theorem dX6_moved_56 : decode cX6_moved 56 = .ok (.iload 8, 2) := by decide +kernel
theorem dX6_moved_58 : decode cX6_moved 58 = .ok (.iadd, 1) := by decide +kernel
theorem dX6_moved_59 : decode cX6_moved 59 = .ok (.istore 9, 2) := by decide +kernel
theorem dX6_moved_61 : decode cX6_moved 61 = .ok (.iload 9, 2) := by decide +kernel
theorem dX6_moved_63 : decode cX6_moved 63 = .ok (.iload 7, 2) := by decide +kernel
theorem dX6_moved_65 : decode cX6_moved 65 = .ok (.iload 8, 2) := by decide +kernel
theorem dX6_moved_67 : decode cX6_moved 67 = .ok (.isub, 1) := by decide +kernel
theorem dX6_moved_68 : decode cX6_moved 68 = .ok (.if_icmp .lt 69, 3) := by decide +kernel
theorem dX6_moved_71 : decode cX6_moved 71 = .ok (.iload 9, 2) := by decide +kernel
theorem dX6_moved_73 : decode cX6_moved 73 = .ok (.aload_n 1, 1) := by decide +kernel
theorem dX6_moved_74 : decode cX6_moved 74 = .ok (.getfield 57, 3) := by decide +kernel
theorem dX6_moved_77 : decode cX6_moved 77 = .ok (.iload 6, 2) := by decide +kernel
theorem dX6_moved_79 : decode cX6_moved 79 = .ok (.iaload, 1) := by decide +kernel
theorem dX6_moved_80 : decode cX6_moved 80 = .ok (.if_icmp .lt 45, 3) := by decide +kernel
theorem dX6_moved_83 : decode cX6_moved 83 = .ok (.iload 9, 2) := by decide +kernel
theorem dX6_moved_85 : decode cX6_moved 85 = .ok (.aload_n 1, 1) := by decide +kernel
theorem dX6_moved_86 : decode cX6_moved 86 = .ok (.getfield 84, 3) := by decide +kernel
theorem dX6_moved_89 : decode cX6_moved 89 = .ok (.iload 6, 2) := by decide +kernel
theorem dX6_moved_91 : decode cX6_moved 91 = .ok (.iaload, 1) := by decide +kernel
theorem dX6_moved_92 : decode cX6_moved 92 = .ok (.if_icmp .le 6, 3) := by decide +kernel
theorem dX6_moved_95 : decode cX6_moved 95 = .ok (.goto 30, 3) := by decide +kernel
theorem dX6_moved_98 : decode cX6_moved 98 = .ok (.aload_n 0, 1) := by decide +kernel
theorem dX6_moved_99 : decode cX6_moved 99 = .ok (.getfield 15, 3) := by decide +kernel
theorem dX6_moved_102 : decode cX6_moved 102 = .ok (.iload 6, 2) := by decide +kernel
theorem dX6_moved_104 : decode cX6_moved 104 = .ok (.iload 9, 2) := by decide +kernel
theorem dX6_moved_106 : decode cX6_moved 106 = .ok (.iastore, 1) := by decide +kernel
theorem dX6_moved_107 : decode cX6_moved 107 = .ok (.aload_n 0, 1) := by decide +kernel
theorem dX6_moved_108 : decode cX6_moved 108 = .ok (.aload_n 1, 1) := by decide +kernel
theorem dX6_moved_109 : decode cX6_moved 109 = .ok (.iload_n 2, 1) := by decide +kernel
theorem dX6_moved_110 : decode cX6_moved 110 = .ok (.invokevirtual 60, 3) := by decide +kernel
theorem dX6_moved_113 : decode cX6_moved 113 = .ok (.lstore 10, 2) := by decide +kernel
theorem dX6_moved_115 : decode cX6_moved 115 = .ok (.lload 10, 2) := by decide +kernel
theorem dX6_moved_117 : decode cX6_moved 117 = .ok (.lload_n 3, 1) := by decide +kernel
theorem dX6_moved_118 : decode cX6_moved 118 = .ok (.lcmp, 1) := by decide +kernel
theorem dX6_moved_119 : decode cX6_moved 119 = .ok (.ifCond .le 6, 3) := by decide +kernel
theorem dX6_moved_122 : decode cX6_moved 122 = .ok (.lload 10, 2) := by decide +kernel
theorem dX6_moved_124 : decode cX6_moved 124 = .ok (.lreturn, 1) := by decide +kernel
theorem dX6_moved_125 : decode cX6_moved 125 = .ok (.iload 9, 2) := by decide +kernel
theorem dX6_moved_127 : decode cX6_moved 127 = .ok (.iconst 2, 1) := by decide +kernel
theorem dX6_moved_128 : decode cX6_moved 128 = .ok (.iload 8, 2) := by decide +kernel
theorem dX6_moved_130 : decode cX6_moved 130 = .ok (.imul, 1) := by decide +kernel
theorem dX6_moved_131 : decode cX6_moved 131 = .ok (.isub, 1) := by decide +kernel
theorem dX6_moved_132 : decode cX6_moved 132 = .ok (.istore 9, 2) := by decide +kernel
theorem dX6_moved_134 : decode cX6_moved 134 = .ok (.goto (-73), 3) := by decide +kernel
theorem dX6_moved_137 : decode cX6_moved 137 = .ok (.iload 8, 2) := by decide +kernel
theorem dX6_moved_139 : decode cX6_moved 139 = .ok (.iconst 2, 1) := by decide +kernel
theorem dX6_moved_140 : decode cX6_moved 140 = .ok (.idiv, 1) := by decide +kernel
theorem dX6_moved_141 : decode cX6_moved 141 = .ok (.istore 8, 2) := by decide +kernel
theorem dX6_moved_143 : decode cX6_moved 143 = .ok (.goto (-95), 3) := by decide +kernel
theorem dX6_moved_146 : decode cX6_moved 146 = .ok (.aload_n 0, 1) := by decide +kernel
theorem dX6_moved_147 : decode cX6_moved 147 = .ok (.getfield 15, 3) := by decide +kernel
theorem dX6_moved_150 : decode cX6_moved 150 = .ok (.iload 6, 2) := by decide +kernel
theorem dX6_moved_152 : decode cX6_moved 152 = .ok (.iload 7, 2) := by decide +kernel
theorem dX6_moved_154 : decode cX6_moved 154 = .ok (.iastore, 1) := by decide +kernel
theorem dX6_moved_155 : decode cX6_moved 155 = .ok (.iinc 5 1, 3) := by decide +kernel
theorem dX6_moved_158 : decode cX6_moved 158 = .ok (.goto (-155), 3) := by decide +kernel
theorem dX6_moved_161 : decode cX6_moved 161 = .ok (.lload_n 3, 1) := by decide +kernel
theorem dX6_moved_162 : decode cX6_moved 162 = .ok (.lreturn, 1) := by decide +kernel
theorem dX7_init_0 : decode cX7_init 0 = .ok (.aload_n 0, 1) := by decide +kernel
theorem dX7_init_1 : decode cX7_init 1 = .ok (.invokespecial 5, 3) := by decide +kernel
theorem dX7_init_4 : decode cX7_init 4 = .ok (.aload_n 0, 1) := by decide +kernel
theorem dX7_init_5 : decode cX7_init 5 = .ok (.sipush 500, 3) := by decide +kernel
theorem dX7_init_8 : decode cX7_init 8 = .ok (.newarray .byte, 2) := by decide +kernel
theorem dX7_init_10 : decode cX7_init 10 = .ok (.putfield 11, 3) := by decide +kernel
theorem dX7_init_13 : decode cX7_init 13 = .ok (.aload_n 0, 1) := by decide +kernel
theorem dX7_init_14 : decode cX7_init 14 = .ok (.bipush 15, 2) := by decide +kernel
theorem dX7_init_16 : decode cX7_init 16 = .ok (.newarray .int, 2) := by decide +kernel
theorem dX7_init_18 : decode cX7_init 18 = .ok (.putfield 15, 3) := by decide +kernel
theorem dX7_init_21 : decode cX7_init 21 = .ok (.aload_n 0, 1) := by decide +kernel
theorem dX7_init_22 : decode cX7_init 22 = .ok (.new 19, 3) := by decide +kernel
theorem dX7_init_25 : decode cX7_init 25 = .ok (.dup, 1) := by decide +kernel
theorem dX7_init_26 : decode cX7_init 26 = .ok (.invokespecial 21, 3) := by decide +kernel
theorem dX7_init_29 : decode cX7_init 29 = .ok (.putfield 22, 3) := by decide +kernel
theorem dX7_init_32 : decode cX7_init 32 = .ok (.aload_n 0, 1) := by decide +kernel
theorem dX7_init_33 : decode cX7_init 33 = .ok (.new 26, 3) := by decide +kernel
theorem dX7_init_36 : decode cX7_init 36 = .ok (.dup, 1) := by decide +kernel
theorem dX7_init_37 : decode cX7_init 37 = .ok (.invokespecial 28, 3) := by decide +kernel
theorem dX7_init_40 : decode cX7_init 40 = .ok (.putfield 29, 3) := by decide +kernel
theorem dX7_init_43 : decode cX7_init 43 = .ok (.aload_n 0, 1) := by decide +kernel
theorem dX7_init_44 : decode cX7_init 44 = .ok (.new 33, 3) := by decide +kernel
theorem dX7_init_47 : decode cX7_init 47 = .ok (.dup, 1) := by decide +kernel
theorem dX7_init_48 : decode cX7_init 48 = .ok (.invokespecial 35, 3) := by decide +kernel
theorem dX7_init_51 : decode cX7_init 51 = .ok (.putfield 36, 3) := by decide +kernel
theorem dX7_init_54 : decode cX7_init 54 = .ok (.aload_n 0, 1) := by decide +kernel
theorem dX7_init_55 : decode cX7_init 55 = .ok (.new 40, 3) := by decide +kernel
theorem dX7_init_58 : decode cX7_init 58 = .ok (.dup, 1) := by decide +kernel
theorem dX7_init_59 : decode cX7_init 59 = .ok (.invokespecial 42, 3) := by decide +kernel
theorem dX7_init_62 : decode cX7_init 62 = .ok (.putfield 43, 3) := by decide +kernel
theorem dX7_init_65 : decode cX7_init 65 = .ok (.aload_n 0, 1) := by decide +kernel
theorem dX7_init_66 : decode cX7_init 66 = .ok (.new 47, 3) := by decide +kernel
theorem dX7_init_69 : decode cX7_init 69 = .ok (.dup, 1) := by decide +kernel
theorem dX7_init_70 : decode cX7_init 70 = .ok (.invokespecial 49, 3) := by decide +kernel
theorem dX7_init_73 : decode cX7_init 73 = .ok (.putfield 50, 3) := by decide +kernel
theorem dX7_init_76 : decode cX7_init 76 = .ok (.aload_n 0, 1) := by decide +kernel
theorem dX7_init_77 : decode cX7_init 77 = .ok (.new 47, 3) := by decide +kernel
theorem dX7_init_80 : decode cX7_init 80 = .ok (.dup, 1) := by decide +kernel
theorem dX7_init_81 : decode cX7_init 81 = .ok (.invokespecial 49, 3) := by decide +kernel
theorem dX7_init_84 : decode cX7_init 84 = .ok (.putfield 54, 3) := by decide +kernel
theorem dX7_init_87 : decode cX7_init 87 = .ok (.aload_n 0, 1) := by decide +kernel
theorem dX7_init_88 : decode cX7_init 88 = .ok (.iconst 0, 1) := by decide +kernel
theorem dX7_init_89 : decode cX7_init 89 = .ok (.putfield 57, 3) := by decide +kernel
theorem dX7_init_92 : decode cX7_init 92 = .ok (.aload_n 0, 1) := by decide +kernel
theorem dX7_init_93 : decode cX7_init 93 = .ok (.iconst 0, 1) := by decide +kernel
theorem dX7_init_94 : decode cX7_init 94 = .ok (.putfield 61, 3) := by decide +kernel
theorem dX7_init_97 : decode cX7_init 97 = .ok (.aload_n 0, 1) := by decide +kernel
theorem dX7_init_98 : decode cX7_init 98 = .ok (.iconst 0, 1) := by decide +kernel
theorem dX7_init_99 : decode cX7_init 99 = .ok (.putfield 64, 3) := by decide +kernel
theorem dX7_init_102 : decode cX7_init 102 = .ok (.aload_n 0, 1) := by decide +kernel
theorem dX7_init_103 : decode cX7_init 103 = .ok (.iconst (-1), 1) := by decide +kernel
theorem dX7_init_104 : decode cX7_init 104 = .ok (.putfield 67, 3) := by decide +kernel
theorem dX7_init_107 : decode cX7_init 107 = .ok (.return_, 1) := by decide +kernel
theorem dX7_feed_0 : decode cX7_feed 0 = .ok (.aload_n 0, 1) := by decide +kernel
theorem dX7_feed_1 : decode cX7_feed 1 = .ok (.getfield 57, 3) := by decide +kernel
theorem dX7_feed_4 : decode cX7_feed 4 = .ok (.bipush 20, 2) := by decide +kernel
theorem dX7_feed_6 : decode cX7_feed 6 = .ok (.iadd, 1) := by decide +kernel
theorem dX7_feed_7 : decode cX7_feed 7 = .ok (.sipush 500, 3) := by decide +kernel
theorem dX7_feed_10 : decode cX7_feed 10 = .ok (.if_icmp .le 5, 3) := by decide +kernel
theorem dX7_feed_13 : decode cX7_feed 13 = .ok (.iconst (-1), 1) := by decide +kernel
theorem dX7_feed_14 : decode cX7_feed 14 = .ok (.ireturn, 1) := by decide +kernel
theorem dX7_feed_15 : decode cX7_feed 15 = .ok (.aload_n 0, 1) := by decide +kernel
theorem dX7_feed_16 : decode cX7_feed 16 = .ok (.iload_n 1, 1) := by decide +kernel
theorem dX7_feed_17 : decode cX7_feed 17 = .ok (.invokevirtual 70, 3) := by decide +kernel
theorem dX7_feed_20 : decode cX7_feed 20 = .ok (.aload_n 0, 1) := by decide +kernel
theorem dX7_feed_21 : decode cX7_feed 21 = .ok (.iload_n 2, 1) := by decide +kernel
theorem dX7_feed_22 : decode cX7_feed 22 = .ok (.invokevirtual 70, 3) := by decide +kernel
theorem dX7_feed_25 : decode cX7_feed 25 = .ok (.aload_n 0, 1) := by decide +kernel
theorem dX7_feed_26 : decode cX7_feed 26 = .ok (.iload_n 3, 1) := by decide +kernel
theorem dX7_feed_27 : decode cX7_feed 27 = .ok (.invokevirtual 70, 3) := by decide +kernel
theorem dX7_feed_30 : decode cX7_feed 30 = .ok (.aload_n 0, 1) := by decide +kernel
theorem dX7_feed_31 : decode cX7_feed 31 = .ok (.iload 4, 2) := by decide +kernel
theorem dX7_feed_33 : decode cX7_feed 33 = .ok (.invokevirtual 70, 3) := by decide +kernel
theorem dX7_feed_36 : decode cX7_feed 36 = .ok (.aload_n 0, 1) := by decide +kernel
theorem dX7_feed_37 : decode cX7_feed 37 = .ok (.iload 5, 2) := by decide +kernel
theorem dX7_feed_39 : decode cX7_feed 39 = .ok (.invokevirtual 70, 3) := by decide +kernel
theorem dX7_feed_42 : decode cX7_feed 42 = .ok (.aload_n 0, 1) := by decide +kernel
theorem dX7_feed_43 : decode cX7_feed 43 = .ok (.getfield 57, 3) := by decide +kernel
theorem dX7_feed_46 : decode cX7_feed 46 = .ok (.ireturn, 1) := by decide +kernel
theorem dX7_program_0 : decode cX7_program 0 = .ok (.iload_n 1, 1) := by decide +kernel
theorem dX7_program_1 : decode cX7_program 1 = .ok (.ifCond .lt 11, 3) := by decide +kernel
theorem dX7_program_4 : decode cX7_program 4 = .ok (.iload_n 1, 1) := by decide +kernel
theorem dX7_program_5 : decode cX7_program 5 = .ok (.aload_n 0, 1) := by decide +kernel
theorem dX7_program_6 : decode cX7_program 6 = .ok (.getfield 57, 3) := by decide +kernel
theorem dX7_program_9 : decode cX7_program 9 = .ok (.if_icmp .le 9, 3) := by decide +kernel
theorem dX7_program_12 : decode cX7_program 12 = .ok (.aload_n 0, 1) := by decide +kernel
theorem dX7_program_13 : decode cX7_program 13 = .ok (.iconst 2, 1) := by decide +kernel
theorem dX7_program_14 : decode cX7_program 14 = .ok (.invokevirtual 74, 3) := by decide +kernel
theorem dX7_program_17 : decode cX7_program 17 = .ok (.ireturn, 1) := by decide +kernel
theorem dX7_program_18 : decode cX7_program 18 = .ok (.aload_n 0, 1) := by decide +kernel
theorem dX7_program_19 : decode cX7_program 19 = .ok (.iconst 0, 1) := by decide +kernel
theorem dX7_program_20 : decode cX7_program 20 = .ok (.putfield 57, 3) := by decide +kernel
theorem dX7_program_23 : decode cX7_program 23 = .ok (.aload_n 0, 1) := by decide +kernel
theorem dX7_program_24 : decode cX7_program 24 = .ok (.getfield 22, 3) := by decide +kernel
theorem dX7_program_27 : decode cX7_program 27 = .ok (.aload_n 0, 1) := by decide +kernel
theorem dX7_program_28 : decode cX7_program 28 = .ok (.getfield 11, 3) := by decide +kernel
theorem dX7_program_31 : decode cX7_program 31 = .ok (.iload_n 1, 1) := by decide +kernel
theorem dX7_program_32 : decode cX7_program 32 = .ok (.aload_n 0, 1) := by decide +kernel
theorem dX7_program_33 : decode cX7_program 33 = .ok (.getfield 54, 3) := by decide +kernel
theorem dX7_program_36 : decode cX7_program 36 = .ok (.invokevirtual 78, 3) := by decide +kernel
theorem dX7_program_39 : decode cX7_program 39 = .ok (.istore_n 2, 1) := by decide +kernel
theorem dX7_program_40 : decode cX7_program 40 = .ok (.aload_n 0, 1) := by decide +kernel
theorem dX7_program_41 : decode cX7_program 41 = .ok (.aload_n 0, 1) := by decide +kernel
theorem dX7_program_42 : decode cX7_program 42 = .ok (.getfield 22, 3) := by decide +kernel
theorem dX7_program_45 : decode cX7_program 45 = .ok (.getfield 82, 3) := by decide +kernel
theorem dX7_program_48 : decode cX7_program 48 = .ok (.putfield 64, 3) := by decide +kernel
theorem dX7_program_51 : decode cX7_program 51 = .ok (.aload_n 0, 1) := by decide +kernel
theorem dX7_program_52 : decode cX7_program 52 = .ok (.aload_n 0, 1) := by decide +kernel
theorem dX7_program_53 : decode cX7_program 53 = .ok (.getfield 22, 3) := by decide +kernel
theorem dX7_program_56 : decode cX7_program 56 = .ok (.getfield 83, 3) := by decide +kernel
theorem dX7_program_59 : decode cX7_program 59 = .ok (.putfield 67, 3) := by decide +kernel
theorem dX7_program_62 : decode cX7_program 62 = .ok (.iload_n 2, 1) := by decide +kernel
theorem dX7_program_63 : decode cX7_program 63 = .ok (.ifCond .ne 9, 3) := by decide +kernel
theorem dX7_program_66 : decode cX7_program 66 = .ok (.aload_n 0, 1) := by decide +kernel
theorem dX7_program_67 : decode cX7_program 67 = .ok (.iconst 4, 1) := by decide +kernel
theorem dX7_program_68 : decode cX7_program 68 = .ok (.invokevirtual 74, 3) := by decide +kernel
theorem dX7_program_71 : decode cX7_program 71 = .ok (.ireturn, 1) := by decide +kernel
theorem dX7_program_72 : decode cX7_program 72 = .ok (.aload_n 0, 1) := by decide +kernel
theorem dX7_program_73 : decode cX7_program 73 = .ok (.invokevirtual 84, 3) := by decide +kernel
theorem dX7_program_76 : decode cX7_program 76 = .ok (.iconst 0, 1) := by decide +kernel
theorem dX7_program_77 : decode cX7_program 77 = .ok (.istore_n 3, 1) := by decide +kernel
theorem dX7_program_78 : decode cX7_program 78 = .ok (.iload_n 3, 1) := by decide +kernel
theorem dX7_program_79 : decode cX7_program 79 = .ok (.aload_n 0, 1) := by decide +kernel
theorem dX7_program_80 : decode cX7_program 80 = .ok (.getfield 50, 3) := by decide +kernel
theorem dX7_program_83 : decode cX7_program 83 = .ok (.getfield 87, 3) := by decide +kernel
theorem dX7_program_86 : decode cX7_program 86 = .ok (.if_icmp .ge 37, 3) := by decide +kernel
theorem dX7_program_89 : decode cX7_program 89 = .ok (.aload_n 0, 1) := by decide +kernel
theorem dX7_program_90 : decode cX7_program 90 = .ok (.getfield 50, 3) := by decide +kernel
theorem dX7_program_93 : decode cX7_program 93 = .ok (.getfield 90, 3) := by decide +kernel
theorem dX7_program_96 : decode cX7_program 96 = .ok (.iload_n 3, 1) := by decide +kernel
theorem dX7_program_97 : decode cX7_program 97 = .ok (.iaload, 1) := by decide +kernel
theorem dX7_program_98 : decode cX7_program 98 = .ok (.istore 4, 2) := by decide +kernel
theorem dX7_program_100 : decode cX7_program 100 = .ok (.aload_n 0, 1) := by decide +kernel
theorem dX7_program_101 : decode cX7_program 101 = .ok (.getfield 15, 3) := by decide +kernel
theorem dX7_program_104 : decode cX7_program 104 = .ok (.iload 4, 2) := by decide +kernel
theorem dX7_program_106 : decode cX7_program 106 = .ok (.aload_n 0, 1) := by decide +kernel
theorem dX7_program_107 : decode cX7_program 107 = .ok (.getfield 50, 3) := by decide +kernel
theorem dX7_program_110 : decode cX7_program 110 = .ok (.getfield 93, 3) := by decide +kernel
theorem dX7_program_113 : decode cX7_program 113 = .ok (.iload 4, 2) := by decide +kernel
theorem dX7_program_115 : decode cX7_program 115 = .ok (.iaload, 1) := by decide +kernel
theorem dX7_program_116 : decode cX7_program 116 = .ok (.iastore, 1) := by decide +kernel
theorem dX7_program_117 : decode cX7_program 117 = .ok (.iinc 3 1, 3) := by decide +kernel
theorem dX7_program_120 : decode cX7_program 120 = .ok (.goto (-42), 3) := by decide +kernel
theorem dX7_program_123 : decode cX7_program 123 = .ok (.aload_n 0, 1) := by decide +kernel
theorem dX7_program_124 : decode cX7_program 124 = .ok (.iconst 0, 1) := by decide +kernel
theorem dX7_program_125 : decode cX7_program 125 = .ok (.putfield 61, 3) := by decide +kernel
theorem dX7_program_128 : decode cX7_program 128 = .ok (.aload_n 0, 1) := by decide +kernel
theorem dX7_program_129 : decode cX7_program 129 = .ok (.getfield 50, 3) := by decide +kernel
theorem dX7_program_132 : decode cX7_program 132 = .ok (.getfield 96, 3) := by decide +kernel
theorem dX7_program_135 : decode cX7_program 135 = .ok (.ireturn, 1) := by decide +kernel
theorem dX7_fault_0 : decode cX7_fault 0 = .ok (.aload_n 0, 1) := by decide +kernel
theorem dX7_fault_1 : decode cX7_fault 1 = .ok (.getfield 64, 3) := by decide +kernel
theorem dX7_fault_4 : decode cX7_fault 4 = .ok (.ireturn, 1) := by decide +kernel
theorem dX7_where_0 : decode cX7_where 0 = .ok (.aload_n 0, 1) := by decide +kernel
theorem dX7_where_1 : decode cX7_where 1 = .ok (.getfield 61, 3) := by decide +kernel
theorem dX7_where_4 : decode cX7_where 4 = .ok (.iconst 4, 1) := by decide +kernel
theorem dX7_where_5 : decode cX7_where 5 = .ok (.if_icmp .ne 10, 3) := by decide +kernel
theorem dX7_where_8 : decode cX7_where 8 = .ok (.aload_n 0, 1) := by decide +kernel
theorem dX7_where_9 : decode cX7_where 9 = .ok (.getfield 67, 3) := by decide +kernel
theorem dX7_where_12 : decode cX7_where 12 = .ok (.goto 4, 3) := by decide +kernel
theorem dX7_where_15 : decode cX7_where 15 = .ok (.iconst (-1), 1) := by decide +kernel
theorem dX7_where_16 : decode cX7_where 16 = .ok (.ireturn, 1) := by decide +kernel
theorem dX7_about_0 : decode cX7_about 0 = .ok (.aload_n 0, 1) := by decide +kernel
theorem dX7_about_1 : decode cX7_about 1 = .ok (.getfield 50, 3) := by decide +kernel
theorem dX7_about_4 : decode cX7_about 4 = .ok (.getfield 96, 3) := by decide +kernel
theorem dX7_about_7 : decode cX7_about 7 = .ok (.ifCond .eq 12, 3) := by decide +kernel
theorem dX7_about_10 : decode cX7_about 10 = .ok (.iload_n 1, 1) := by decide +kernel
theorem dX7_about_11 : decode cX7_about 11 = .ok (.ifCond .lt 8, 3) := by decide +kernel
theorem dX7_about_14 : decode cX7_about 14 = .ok (.iload_n 1, 1) := by decide +kernel
theorem dX7_about_15 : decode cX7_about 15 = .ok (.iconst 4, 1) := by decide +kernel
theorem dX7_about_16 : decode cX7_about 16 = .ok (.if_icmp .le 9, 3) := by decide +kernel
theorem dX7_about_19 : decode cX7_about 19 = .ok (.aload_n 0, 1) := by decide +kernel
theorem dX7_about_20 : decode cX7_about 20 = .ok (.iconst 1, 1) := by decide +kernel
theorem dX7_about_21 : decode cX7_about 21 = .ok (.invokevirtual 74, 3) := by decide +kernel
theorem dX7_about_24 : decode cX7_about 24 = .ok (.ireturn, 1) := by decide +kernel
theorem dX7_about_25 : decode cX7_about 25 = .ok (.aload_n 0, 1) := by decide +kernel
theorem dX7_about_26 : decode cX7_about 26 = .ok (.iconst 0, 1) := by decide +kernel
theorem dX7_about_27 : decode cX7_about 27 = .ok (.putfield 61, 3) := by decide +kernel
theorem dX7_about_30 : decode cX7_about 30 = .ok (.iload_n 1, 1) := by decide +kernel
theorem dX7_about_31 : decode cX7_about 31 = .ok (.tableswitch 61 0 3 #[29, 37, 45, 53], 29) := by decide +kernel
theorem dX7_about_60 : decode cX7_about 60 = .ok (.aload_n 0, 1) := by decide +kernel
theorem dX7_about_61 : decode cX7_about 61 = .ok (.getfield 50, 3) := by decide +kernel
theorem dX7_about_64 : decode cX7_about 64 = .ok (.getfield 96, 3) := by decide +kernel
theorem dX7_about_67 : decode cX7_about 67 = .ok (.ireturn, 1) := by decide +kernel
theorem dX7_about_68 : decode cX7_about 68 = .ok (.aload_n 0, 1) := by decide +kernel
theorem dX7_about_69 : decode cX7_about 69 = .ok (.getfield 50, 3) := by decide +kernel
theorem dX7_about_72 : decode cX7_about 72 = .ok (.getfield 87, 3) := by decide +kernel
theorem dX7_about_75 : decode cX7_about 75 = .ok (.ireturn, 1) := by decide +kernel
theorem dX7_about_76 : decode cX7_about 76 = .ok (.aload_n 0, 1) := by decide +kernel
theorem dX7_about_77 : decode cX7_about 77 = .ok (.getfield 50, 3) := by decide +kernel
theorem dX7_about_80 : decode cX7_about 80 = .ok (.invokevirtual 99, 3) := by decide +kernel
theorem dX7_about_83 : decode cX7_about 83 = .ok (.ireturn, 1) := by decide +kernel
theorem dX7_about_84 : decode cX7_about 84 = .ok (.aload_n 0, 1) := by decide +kernel
theorem dX7_about_85 : decode cX7_about 85 = .ok (.getfield 29, 3) := by decide +kernel
theorem dX7_about_88 : decode cX7_about 88 = .ok (.getfield 103, 3) := by decide +kernel
theorem dX7_about_91 : decode cX7_about 91 = .ok (.ireturn, 1) := by decide +kernel
theorem dX7_about_92 : decode cX7_about 92 = .ok (.aload_n 0, 1) := by decide +kernel
theorem dX7_about_93 : decode cX7_about 93 = .ok (.getfield 50, 3) := by decide +kernel
theorem dX7_about_96 : decode cX7_about 96 = .ok (.invokevirtual 106, 3) := by decide +kernel
theorem dX7_about_99 : decode cX7_about 99 = .ok (.ldc2_w 110, 3) := by decide +kernel
theorem dX7_about_102 : decode cX7_about 102 = .ok (.invokestatic 112, 3) := by decide +kernel
theorem dX7_about_105 : decode cX7_about 105 = .ok (.l2i, 1) := by decide +kernel
theorem dX7_about_106 : decode cX7_about 106 = .ok (.ireturn, 1) := by decide +kernel
theorem dX7_variable_0 : decode cX7_variable 0 = .ok (.aload_n 0, 1) := by decide +kernel
theorem dX7_variable_1 : decode cX7_variable 1 = .ok (.getfield 50, 3) := by decide +kernel
theorem dX7_variable_4 : decode cX7_variable 4 = .ok (.iload_n 1, 1) := by decide +kernel
theorem dX7_variable_5 : decode cX7_variable 5 = .ok (.invokevirtual 118, 3) := by decide +kernel
theorem dX7_variable_8 : decode cX7_variable 8 = .ok (.ifCond .eq 13, 3) := by decide +kernel
theorem dX7_variable_11 : decode cX7_variable 11 = .ok (.iload_n 2, 1) := by decide +kernel
theorem dX7_variable_12 : decode cX7_variable 12 = .ok (.ifCond .lt 9, 3) := by decide +kernel
theorem dX7_variable_15 : decode cX7_variable 15 = .ok (.iload_n 2, 1) := by decide +kernel
theorem dX7_variable_16 : decode cX7_variable 16 = .ok (.bipush 6, 2) := by decide +kernel
theorem dX7_variable_18 : decode cX7_variable 18 = .ok (.if_icmp .le 9, 3) := by decide +kernel
theorem dX7_variable_21 : decode cX7_variable 21 = .ok (.aload_n 0, 1) := by decide +kernel
theorem dX7_variable_22 : decode cX7_variable 22 = .ok (.iconst 1, 1) := by decide +kernel
theorem dX7_variable_23 : decode cX7_variable 23 = .ok (.invokevirtual 122, 3) := by decide +kernel
theorem dX7_variable_26 : decode cX7_variable 26 = .ok (.lreturn, 1) := by decide +kernel
theorem dX7_variable_27 : decode cX7_variable 27 = .ok (.aload_n 0, 1) := by decide +kernel
theorem dX7_variable_28 : decode cX7_variable 28 = .ok (.iconst 0, 1) := by decide +kernel
theorem dX7_variable_29 : decode cX7_variable 29 = .ok (.putfield 61, 3) := by decide +kernel
theorem dX7_variable_32 : decode cX7_variable 32 = .ok (.aload_n 0, 1) := by decide +kernel
theorem dX7_variable_33 : decode cX7_variable 33 = .ok (.getfield 50, 3) := by decide +kernel
theorem dX7_variable_36 : decode cX7_variable 36 = .ok (.iload_n 1, 1) := by decide +kernel
theorem dX7_variable_37 : decode cX7_variable 37 = .ok (.invokevirtual 126, 3) := by decide +kernel
theorem dX7_variable_40 : decode cX7_variable 40 = .ok (.istore_n 3, 1) := by decide +kernel
theorem dX7_variable_41 : decode cX7_variable 41 = .ok (.iload_n 2, 1) := by decide +kernel
theorem dX7_variable_42 : decode cX7_variable 42 = .ok (.tableswitch 129 0 5 #[38, 48, 67, 86, 97, 118], 38) := by decide +kernel
theorem dX7_variable_80 : decode cX7_variable 80 = .ok (.iload_n 3, 1) := by decide +kernel
theorem dX7_variable_81 : decode cX7_variable 81 = .ok (.ifCond .eq 7, 3) := by decide +kernel
theorem dX7_variable_84 : decode cX7_variable 84 = .ok (.lconst 1, 1) := by decide +kernel
theorem dX7_variable_85 : decode cX7_variable 85 = .ok (.goto 4, 3) := by decide +kernel
theorem dX7_variable_88 : decode cX7_variable 88 = .ok (.lconst 0, 1) := by decide +kernel
theorem dX7_variable_89 : decode cX7_variable 89 = .ok (.lreturn, 1) := by decide +kernel
theorem dX7_variable_90 : decode cX7_variable 90 = .ok (.iload_n 3, 1) := by decide +kernel
theorem dX7_variable_91 : decode cX7_variable 91 = .ok (.ifCond .eq 16, 3) := by decide +kernel
theorem dX7_variable_94 : decode cX7_variable 94 = .ok (.aload_n 0, 1) := by decide +kernel
theorem dX7_variable_95 : decode cX7_variable 95 = .ok (.getfield 50, 3) := by decide +kernel
theorem dX7_variable_98 : decode cX7_variable 98 = .ok (.getfield 93, 3) := by decide +kernel
theorem dX7_variable_101 : decode cX7_variable 101 = .ok (.iload_n 1, 1) := by decide +kernel
theorem dX7_variable_102 : decode cX7_variable 102 = .ok (.iaload, 1) := by decide +kernel
theorem dX7_variable_103 : decode cX7_variable 103 = .ok (.i2l, 1) := by decide +kernel
theorem dX7_variable_104 : decode cX7_variable 104 = .ok (.goto 4, 3) := by decide +kernel
theorem dX7_variable_107 : decode cX7_variable 107 = .ok (.lconst 0, 1) := by decide +kernel
theorem dX7_variable_108 : decode cX7_variable 108 = .ok (.lreturn, 1) := by decide +kernel
theorem dX7_variable_109 : decode cX7_variable 109 = .ok (.iload_n 3, 1) := by decide +kernel
theorem dX7_variable_110 : decode cX7_variable 110 = .ok (.ifCond .eq 16, 3) := by decide +kernel
theorem dX7_variable_113 : decode cX7_variable 113 = .ok (.aload_n 0, 1) := by decide +kernel
theorem dX7_variable_114 : decode cX7_variable 114 = .ok (.getfield 50, 3) := by decide +kernel
theorem dX7_variable_117 : decode cX7_variable 117 = .ok (.getfield 129, 3) := by decide +kernel
theorem dX7_variable_120 : decode cX7_variable 120 = .ok (.iload_n 1, 1) := by decide +kernel
theorem dX7_variable_121 : decode cX7_variable 121 = .ok (.iaload, 1) := by decide +kernel
theorem dX7_variable_122 : decode cX7_variable 122 = .ok (.i2l, 1) := by decide +kernel
theorem dX7_variable_123 : decode cX7_variable 123 = .ok (.goto 4, 3) := by decide +kernel
theorem dX7_variable_126 : decode cX7_variable 126 = .ok (.lconst 0, 1) := by decide +kernel
theorem dX7_variable_127 : decode cX7_variable 127 = .ok (.lreturn, 1) := by decide +kernel
theorem dX7_variable_128 : decode cX7_variable 128 = .ok (.aload_n 0, 1) := by decide +kernel
theorem dX7_variable_129 : decode cX7_variable 129 = .ok (.getfield 50, 3) := by decide +kernel
theorem dX7_variable_132 : decode cX7_variable 132 = .ok (.getfield 132, 3) := by decide +kernel
theorem dX7_variable_135 : decode cX7_variable 135 = .ok (.iload_n 1, 1) := by decide +kernel
theorem dX7_variable_136 : decode cX7_variable 136 = .ok (.iaload, 1) := by decide +kernel
theorem dX7_variable_137 : decode cX7_variable 137 = .ok (.i2l, 1) := by decide +kernel
theorem dX7_variable_138 : decode cX7_variable 138 = .ok (.lreturn, 1) := by decide +kernel
theorem dX7_variable_139 : decode cX7_variable 139 = .ok (.iload_n 3, 1) := by decide +kernel
theorem dX7_variable_140 : decode cX7_variable 140 = .ok (.ifCond .eq 9, 3) := by decide +kernel
theorem dX7_variable_143 : decode cX7_variable 143 = .ok (.ldc2_w 135, 3) := by decide +kernel
theorem dX7_variable_146 : decode cX7_variable 146 = .ok (.goto 13, 3) := by decide +kernel
theorem dX7_variable_149 : decode cX7_variable 149 = .ok (.aload_n 0, 1) := by decide +kernel
theorem dX7_variable_150 : decode cX7_variable 150 = .ok (.getfield 50, 3) := by decide +kernel
theorem dX7_variable_153 : decode cX7_variable 153 = .ok (.getfield 137, 3) := by decide +kernel
theorem dX7_variable_156 : decode cX7_variable 156 = .ok (.iload_n 1, 1) := by decide +kernel
theorem dX7_variable_157 : decode cX7_variable 157 = .ok (.iaload, 1) := by decide +kernel
theorem dX7_variable_158 : decode cX7_variable 158 = .ok (.i2l, 1) := by decide +kernel
theorem dX7_variable_159 : decode cX7_variable 159 = .ok (.lreturn, 1) := by decide +kernel
theorem dX7_variable_160 : decode cX7_variable 160 = .ok (.aload_n 0, 1) := by decide +kernel
theorem dX7_variable_161 : decode cX7_variable 161 = .ok (.getfield 50, 3) := by decide +kernel
theorem dX7_variable_164 : decode cX7_variable 164 = .ok (.getfield 140, 3) := by decide +kernel
theorem dX7_variable_167 : decode cX7_variable 167 = .ok (.iload_n 1, 1) := by decide +kernel
theorem dX7_variable_168 : decode cX7_variable 168 = .ok (.iaload, 1) := by decide +kernel
theorem dX7_variable_169 : decode cX7_variable 169 = .ok (.i2l, 1) := by decide +kernel
theorem dX7_variable_170 : decode cX7_variable 170 = .ok (.lreturn, 1) := by decide +kernel
theorem dX7_variable_171 : decode cX7_variable 171 = .ok (.aload_n 0, 1) := by decide +kernel
theorem dX7_variable_172 : decode cX7_variable 172 = .ok (.getfield 50, 3) := by decide +kernel
theorem dX7_variable_175 : decode cX7_variable 175 = .ok (.getfield 143, 3) := by decide +kernel
theorem dX7_variable_178 : decode cX7_variable 178 = .ok (.iload_n 1, 1) := by decide +kernel
theorem dX7_variable_179 : decode cX7_variable 179 = .ok (.laload, 1) := by decide +kernel
theorem dX7_variable_180 : decode cX7_variable 180 = .ok (.lreturn, 1) := by decide +kernel
theorem dX7_operand_0 : decode cX7_operand 0 = .ok (.aload_n 0, 1) := by decide +kernel
theorem dX7_operand_1 : decode cX7_operand 1 = .ok (.getfield 50, 3) := by decide +kernel
theorem dX7_operand_4 : decode cX7_operand 4 = .ok (.iload_n 1, 1) := by decide +kernel
theorem dX7_operand_5 : decode cX7_operand 5 = .ok (.invokevirtual 147, 3) := by decide +kernel
theorem dX7_operand_8 : decode cX7_operand 8 = .ok (.ifCond .eq 19, 3) := by decide +kernel
theorem dX7_operand_11 : decode cX7_operand 11 = .ok (.iload_n 2, 1) := by decide +kernel
theorem dX7_operand_12 : decode cX7_operand 12 = .ok (.ifCond .lt 15, 3) := by decide +kernel
theorem dX7_operand_15 : decode cX7_operand 15 = .ok (.iload_n 2, 1) := by decide +kernel
theorem dX7_operand_16 : decode cX7_operand 16 = .ok (.aload_n 0, 1) := by decide +kernel
theorem dX7_operand_17 : decode cX7_operand 17 = .ok (.getfield 50, 3) := by decide +kernel
theorem dX7_operand_20 : decode cX7_operand 20 = .ok (.iload_n 1, 1) := by decide +kernel
theorem dX7_operand_21 : decode cX7_operand 21 = .ok (.invokevirtual 150, 3) := by decide +kernel
theorem dX7_operand_24 : decode cX7_operand 24 = .ok (.if_icmp .lt 9, 3) := by decide +kernel
theorem dX7_operand_27 : decode cX7_operand 27 = .ok (.aload_n 0, 1) := by decide +kernel
theorem dX7_operand_28 : decode cX7_operand 28 = .ok (.iconst 1, 1) := by decide +kernel
theorem dX7_operand_29 : decode cX7_operand 29 = .ok (.invokevirtual 74, 3) := by decide +kernel
theorem dX7_operand_32 : decode cX7_operand 32 = .ok (.ireturn, 1) := by decide +kernel
theorem dX7_operand_33 : decode cX7_operand 33 = .ok (.aload_n 0, 1) := by decide +kernel
theorem dX7_operand_34 : decode cX7_operand 34 = .ok (.iconst 0, 1) := by decide +kernel
theorem dX7_operand_35 : decode cX7_operand 35 = .ok (.putfield 61, 3) := by decide +kernel
theorem dX7_operand_38 : decode cX7_operand 38 = .ok (.aload_n 0, 1) := by decide +kernel
theorem dX7_operand_39 : decode cX7_operand 39 = .ok (.getfield 50, 3) := by decide +kernel
theorem dX7_operand_42 : decode cX7_operand 42 = .ok (.getfield 153, 3) := by decide +kernel
theorem dX7_operand_45 : decode cX7_operand 45 = .ok (.iload_n 1, 1) := by decide +kernel
theorem dX7_operand_46 : decode cX7_operand 46 = .ok (.iconst 4, 1) := by decide +kernel
theorem dX7_operand_47 : decode cX7_operand 47 = .ok (.imul, 1) := by decide +kernel
theorem dX7_operand_48 : decode cX7_operand 48 = .ok (.iload_n 2, 1) := by decide +kernel
theorem dX7_operand_49 : decode cX7_operand 49 = .ok (.iadd, 1) := by decide +kernel
theorem dX7_operand_50 : decode cX7_operand 50 = .ok (.iaload, 1) := by decide +kernel
theorem dX7_operand_51 : decode cX7_operand 51 = .ok (.ireturn, 1) := by decide +kernel
theorem dX7_set_0 : decode cX7_set 0 = .ok (.aload_n 0, 1) := by decide +kernel
theorem dX7_set_1 : decode cX7_set 1 = .ok (.getfield 50, 3) := by decide +kernel
theorem dX7_set_4 : decode cX7_set 4 = .ok (.iload_n 1, 1) := by decide +kernel
theorem dX7_set_5 : decode cX7_set 5 = .ok (.invokevirtual 126, 3) := by decide +kernel
theorem dX7_set_8 : decode cX7_set 8 = .ok (.ifCond .ne 9, 3) := by decide +kernel
theorem dX7_set_11 : decode cX7_set 11 = .ok (.aload_n 0, 1) := by decide +kernel
theorem dX7_set_12 : decode cX7_set 12 = .ok (.iconst 1, 1) := by decide +kernel
theorem dX7_set_13 : decode cX7_set 13 = .ok (.invokevirtual 156, 3) := by decide +kernel
theorem dX7_set_16 : decode cX7_set 16 = .ok (.ireturn, 1) := by decide +kernel
theorem dX7_set_17 : decode cX7_set 17 = .ok (.iload_n 2, 1) := by decide +kernel
theorem dX7_set_18 : decode cX7_set 18 = .ok (.aload_n 0, 1) := by decide +kernel
theorem dX7_set_19 : decode cX7_set 19 = .ok (.getfield 50, 3) := by decide +kernel
theorem dX7_set_22 : decode cX7_set 22 = .ok (.getfield 93, 3) := by decide +kernel
theorem dX7_set_25 : decode cX7_set 25 = .ok (.iload_n 1, 1) := by decide +kernel
theorem dX7_set_26 : decode cX7_set 26 = .ok (.iaload, 1) := by decide +kernel
theorem dX7_set_27 : decode cX7_set 27 = .ok (.if_icmp .lt 16, 3) := by decide +kernel
theorem dX7_set_30 : decode cX7_set 30 = .ok (.iload_n 2, 1) := by decide +kernel
theorem dX7_set_31 : decode cX7_set 31 = .ok (.aload_n 0, 1) := by decide +kernel
theorem dX7_set_32 : decode cX7_set 32 = .ok (.getfield 50, 3) := by decide +kernel
theorem dX7_set_35 : decode cX7_set 35 = .ok (.getfield 129, 3) := by decide +kernel
theorem dX7_set_38 : decode cX7_set 38 = .ok (.iload_n 1, 1) := by decide +kernel
theorem dX7_set_39 : decode cX7_set 39 = .ok (.iaload, 1) := by decide +kernel
theorem dX7_set_40 : decode cX7_set 40 = .ok (.if_icmp .le 9, 3) := by decide +kernel
theorem dX7_set_43 : decode cX7_set 43 = .ok (.aload_n 0, 1) := by decide +kernel
theorem dX7_set_44 : decode cX7_set 44 = .ok (.iconst 2, 1) := by decide +kernel
theorem dX7_set_45 : decode cX7_set 45 = .ok (.invokevirtual 156, 3) := by decide +kernel
theorem dX7_set_48 : decode cX7_set 48 = .ok (.ireturn, 1) := by decide +kernel
theorem dX7_set_49 : decode cX7_set 49 = .ok (.aload_n 0, 1) := by decide +kernel
theorem dX7_set_50 : decode cX7_set 50 = .ok (.iconst 0, 1) := by decide +kernel
theorem dX7_set_51 : decode cX7_set 51 = .ok (.putfield 61, 3) := by decide +kernel
theorem dX7_set_54 : decode cX7_set 54 = .ok (.aload_n 0, 1) := by decide +kernel
theorem dX7_set_55 : decode cX7_set 55 = .ok (.getfield 15, 3) := by decide +kernel
theorem dX7_set_58 : decode cX7_set 58 = .ok (.iload_n 1, 1) := by decide +kernel
theorem dX7_set_59 : decode cX7_set 59 = .ok (.iload_n 2, 1) := by decide +kernel
theorem dX7_set_60 : decode cX7_set 60 = .ok (.iastore, 1) := by decide +kernel
theorem dX7_set_61 : decode cX7_set 61 = .ok (.iconst 1, 1) := by decide +kernel
theorem dX7_set_62 : decode cX7_set 62 = .ok (.ireturn, 1) := by decide +kernel
theorem dX7_at_0 : decode cX7_at 0 = .ok (.aload_n 0, 1) := by decide +kernel
theorem dX7_at_1 : decode cX7_at 1 = .ok (.getfield 50, 3) := by decide +kernel
theorem dX7_at_4 : decode cX7_at 4 = .ok (.iload_n 1, 1) := by decide +kernel
theorem dX7_at_5 : decode cX7_at 5 = .ok (.invokevirtual 118, 3) := by decide +kernel
theorem dX7_at_8 : decode cX7_at 8 = .ok (.ifCond .eq 12, 3) := by decide +kernel
theorem dX7_at_11 : decode cX7_at 11 = .ok (.iload_n 2, 1) := by decide +kernel
theorem dX7_at_12 : decode cX7_at 12 = .ok (.ifCond .lt 8, 3) := by decide +kernel
theorem dX7_at_15 : decode cX7_at 15 = .ok (.iload_n 2, 1) := by decide +kernel
theorem dX7_at_16 : decode cX7_at 16 = .ok (.iconst 2, 1) := by decide +kernel
theorem dX7_at_17 : decode cX7_at 17 = .ok (.if_icmp .le 9, 3) := by decide +kernel
theorem dX7_at_20 : decode cX7_at 20 = .ok (.aload_n 0, 1) := by decide +kernel
theorem dX7_at_21 : decode cX7_at 21 = .ok (.iconst 1, 1) := by decide +kernel
theorem dX7_at_22 : decode cX7_at 22 = .ok (.invokevirtual 122, 3) := by decide +kernel
theorem dX7_at_25 : decode cX7_at 25 = .ok (.lreturn, 1) := by decide +kernel
theorem dX7_at_26 : decode cX7_at 26 = .ok (.aload_n 0, 1) := by decide +kernel
theorem dX7_at_27 : decode cX7_at 27 = .ok (.iconst 0, 1) := by decide +kernel
theorem dX7_at_28 : decode cX7_at 28 = .ok (.putfield 61, 3) := by decide +kernel
theorem dX7_at_31 : decode cX7_at 31 = .ok (.aload_n 0, 1) := by decide +kernel
theorem dX7_at_32 : decode cX7_at 32 = .ok (.getfield 43, 3) := by decide +kernel
theorem dX7_at_35 : decode cX7_at 35 = .ok (.getfield 159, 3) := by decide +kernel
theorem dX7_at_38 : decode cX7_at 38 = .ok (.astore_n 3, 1) := by decide +kernel
theorem dX7_at_39 : decode cX7_at 39 = .ok (.aload_n 3, 1) := by decide +kernel
theorem dX7_at_40 : decode cX7_at 40 = .ok (.aload_n 0, 1) := by decide +kernel
theorem dX7_at_41 : decode cX7_at 41 = .ok (.getfield 50, 3) := by decide +kernel
theorem dX7_at_44 : decode cX7_at 44 = .ok (.aload_n 0, 1) := by decide +kernel
theorem dX7_at_45 : decode cX7_at 45 = .ok (.getfield 15, 3) := by decide +kernel
theorem dX7_at_48 : decode cX7_at 48 = .ok (.iload_n 1, 1) := by decide +kernel
theorem dX7_at_49 : decode cX7_at 49 = .ok (.invokevirtual 163, 3) := by decide +kernel
theorem dX7_at_52 : decode cX7_at 52 = .ok (.iload_n 2, 1) := by decide +kernel
theorem dX7_at_53 : decode cX7_at 53 = .ok (.lookupswitch 41 #[(0, 27), (1, 34)], 27) := by decide +kernel
theorem dX7_at_80 : decode cX7_at 80 = .ok (.aload_n 3, 1) := by decide +kernel
theorem dX7_at_81 : decode cX7_at 81 = .ok (.getfield 169, 3) := by decide +kernel
theorem dX7_at_84 : decode cX7_at 84 = .ok (.iload_n 1, 1) := by decide +kernel
theorem dX7_at_85 : decode cX7_at 85 = .ok (.laload, 1) := by decide +kernel
theorem dX7_at_86 : decode cX7_at 86 = .ok (.lreturn, 1) := by decide +kernel
theorem dX7_at_87 : decode cX7_at 87 = .ok (.aload_n 3, 1) := by decide +kernel
theorem dX7_at_88 : decode cX7_at 88 = .ok (.getfield 172, 3) := by decide +kernel
theorem dX7_at_91 : decode cX7_at 91 = .ok (.iload_n 1, 1) := by decide +kernel
theorem dX7_at_92 : decode cX7_at 92 = .ok (.laload, 1) := by decide +kernel
theorem dX7_at_93 : decode cX7_at 93 = .ok (.lreturn, 1) := by decide +kernel
theorem dX7_at_94 : decode cX7_at 94 = .ok (.aload_n 3, 1) := by decide +kernel
theorem dX7_at_95 : decode cX7_at 95 = .ok (.getfield 172, 3) := by decide +kernel
theorem dX7_at_98 : decode cX7_at 98 = .ok (.iload_n 1, 1) := by decide +kernel
theorem dX7_at_99 : decode cX7_at 99 = .ok (.laload, 1) := by decide +kernel
theorem dX7_at_100 : decode cX7_at 100 = .ok (.aload_n 3, 1) := by decide +kernel
theorem dX7_at_101 : decode cX7_at 101 = .ok (.getfield 169, 3) := by decide +kernel
theorem dX7_at_104 : decode cX7_at 104 = .ok (.iload_n 1, 1) := by decide +kernel
theorem dX7_at_105 : decode cX7_at 105 = .ok (.laload, 1) := by decide +kernel
theorem dX7_at_106 : decode cX7_at 106 = .ok (.lsub, 1) := by decide +kernel
theorem dX7_at_107 : decode cX7_at 107 = .ok (.lreturn, 1) := by decide +kernel
theorem dX7_went_0 : decode cX7_went 0 = .ok (.aload_n 0, 1) := by decide +kernel
theorem dX7_went_1 : decode cX7_went 1 = .ok (.getfield 50, 3) := by decide +kernel
theorem dX7_went_4 : decode cX7_went 4 = .ok (.iload_n 1, 1) := by decide +kernel
theorem dX7_went_5 : decode cX7_went 5 = .ok (.invokevirtual 147, 3) := by decide +kernel
theorem dX7_went_8 : decode cX7_went 8 = .ok (.ifCond .ne 9, 3) := by decide +kernel
theorem dX7_went_11 : decode cX7_went 11 = .ok (.aload_n 0, 1) := by decide +kernel
theorem dX7_went_12 : decode cX7_went 12 = .ok (.iconst 1, 1) := by decide +kernel
theorem dX7_went_13 : decode cX7_went 13 = .ok (.invokevirtual 74, 3) := by decide +kernel
theorem dX7_went_16 : decode cX7_went 16 = .ok (.ireturn, 1) := by decide +kernel
theorem dX7_went_17 : decode cX7_went 17 = .ok (.aload_n 0, 1) := by decide +kernel
theorem dX7_went_18 : decode cX7_went 18 = .ok (.getfield 50, 3) := by decide +kernel
theorem dX7_went_21 : decode cX7_went 21 = .ok (.iload_n 1, 1) := by decide +kernel
theorem dX7_went_22 : decode cX7_went 22 = .ok (.invokevirtual 175, 3) := by decide +kernel
theorem dX7_went_25 : decode cX7_went 25 = .ok (.ifCond .ne 9, 3) := by decide +kernel
theorem dX7_went_28 : decode cX7_went 28 = .ok (.aload_n 0, 1) := by decide +kernel
theorem dX7_went_29 : decode cX7_went 29 = .ok (.iconst 5, 1) := by decide +kernel
theorem dX7_went_30 : decode cX7_went 30 = .ok (.invokevirtual 74, 3) := by decide +kernel
theorem dX7_went_33 : decode cX7_went 33 = .ok (.ireturn, 1) := by decide +kernel
theorem dX7_went_34 : decode cX7_went 34 = .ok (.aload_n 0, 1) := by decide +kernel
theorem dX7_went_35 : decode cX7_went 35 = .ok (.iconst 0, 1) := by decide +kernel
theorem dX7_went_36 : decode cX7_went 36 = .ok (.putfield 61, 3) := by decide +kernel
theorem dX7_went_39 : decode cX7_went 39 = .ok (.aload_n 0, 1) := by decide +kernel
theorem dX7_went_40 : decode cX7_went 40 = .ok (.getfield 43, 3) := by decide +kernel
theorem dX7_went_43 : decode cX7_went 43 = .ok (.getfield 159, 3) := by decide +kernel
theorem dX7_went_46 : decode cX7_went 46 = .ok (.aload_n 0, 1) := by decide +kernel
theorem dX7_went_47 : decode cX7_went 47 = .ok (.getfield 50, 3) := by decide +kernel
theorem dX7_went_50 : decode cX7_went 50 = .ok (.aload_n 0, 1) := by decide +kernel
theorem dX7_went_51 : decode cX7_went 51 = .ok (.getfield 15, 3) := by decide +kernel
theorem dX7_went_54 : decode cX7_went 54 = .ok (.iload_n 1, 1) := by decide +kernel
theorem dX7_went_55 : decode cX7_went 55 = .ok (.invokevirtual 163, 3) := by decide +kernel
theorem dX7_went_58 : decode cX7_went 58 = .ok (.aload_n 0, 1) := by decide +kernel
theorem dX7_went_59 : decode cX7_went 59 = .ok (.getfield 43, 3) := by decide +kernel
theorem dX7_went_62 : decode cX7_went 62 = .ok (.getfield 159, 3) := by decide +kernel
theorem dX7_went_65 : decode cX7_went 65 = .ok (.aload_n 0, 1) := by decide +kernel
theorem dX7_went_66 : decode cX7_went 66 = .ok (.getfield 50, 3) := by decide +kernel
theorem dX7_went_69 : decode cX7_went 69 = .ok (.iload_n 1, 1) := by decide +kernel
theorem dX7_went_70 : decode cX7_went 70 = .ok (.invokevirtual 178, 3) := by decide +kernel
theorem dX7_went_73 : decode cX7_went 73 = .ok (.ireturn, 1) := by decide +kernel
theorem dX7_form_0 : decode cX7_form 0 = .ok (.aload_n 0, 1) := by decide +kernel
theorem dX7_form_1 : decode cX7_form 1 = .ok (.getfield 50, 3) := by decide +kernel
theorem dX7_form_4 : decode cX7_form 4 = .ok (.iload_n 1, 1) := by decide +kernel
theorem dX7_form_5 : decode cX7_form 5 = .ok (.invokevirtual 118, 3) := by decide +kernel
theorem dX7_form_8 : decode cX7_form 8 = .ok (.ifCond .eq 19, 3) := by decide +kernel
theorem dX7_form_11 : decode cX7_form 11 = .ok (.iload_n 3, 1) := by decide +kernel
theorem dX7_form_12 : decode cX7_form 12 = .ok (.iconst (-1), 1) := by decide +kernel
theorem dX7_form_13 : decode cX7_form 13 = .ok (.if_icmp .lt 14, 3) := by decide +kernel
theorem dX7_form_16 : decode cX7_form 16 = .ok (.iload_n 3, 1) := by decide +kernel
theorem dX7_form_17 : decode cX7_form 17 = .ok (.aload_n 0, 1) := by decide +kernel
theorem dX7_form_18 : decode cX7_form 18 = .ok (.getfield 29, 3) := by decide +kernel
theorem dX7_form_21 : decode cX7_form 21 = .ok (.getfield 103, 3) := by decide +kernel
theorem dX7_form_24 : decode cX7_form 24 = .ok (.if_icmp .lt 9, 3) := by decide +kernel
theorem dX7_form_27 : decode cX7_form 27 = .ok (.aload_n 0, 1) := by decide +kernel
theorem dX7_form_28 : decode cX7_form 28 = .ok (.iconst 1, 1) := by decide +kernel
theorem dX7_form_29 : decode cX7_form 29 = .ok (.invokevirtual 122, 3) := by decide +kernel
theorem dX7_form_32 : decode cX7_form 32 = .ok (.lreturn, 1) := by decide +kernel
theorem dX7_form_33 : decode cX7_form 33 = .ok (.aload_n 0, 1) := by decide +kernel
theorem dX7_form_34 : decode cX7_form 34 = .ok (.iconst 0, 1) := by decide +kernel
theorem dX7_form_35 : decode cX7_form 35 = .ok (.putfield 61, 3) := by decide +kernel
theorem dX7_form_38 : decode cX7_form 38 = .ok (.aload_n 0, 1) := by decide +kernel
theorem dX7_form_39 : decode cX7_form 39 = .ok (.getfield 29, 3) := by decide +kernel
theorem dX7_form_42 : decode cX7_form 42 = .ok (.iload_n 1, 1) := by decide +kernel
theorem dX7_form_43 : decode cX7_form 43 = .ok (.iload_n 2, 1) := by decide +kernel
theorem dX7_form_44 : decode cX7_form 44 = .ok (.invokevirtual 182, 3) := by decide +kernel
theorem dX7_form_47 : decode cX7_form 47 = .ok (.astore 4, 2) := by decide +kernel
theorem dX7_form_49 : decode cX7_form 49 = .ok (.iload_n 3, 1) := by decide +kernel
theorem dX7_form_50 : decode cX7_form 50 = .ok (.iconst (-1), 1) := by decide +kernel
theorem dX7_form_51 : decode cX7_form 51 = .ok (.if_icmp .ne 11, 3) := by decide +kernel
theorem dX7_form_54 : decode cX7_form 54 = .ok (.aload 4, 2) := by decide +kernel
theorem dX7_form_56 : decode cX7_form 56 = .ok (.getfield 186, 3) := by decide +kernel
theorem dX7_form_59 : decode cX7_form 59 = .ok (.goto 10, 3) := by decide +kernel
theorem dX7_form_62 : decode cX7_form 62 = .ok (.aload 4, 2) := by decide +kernel
theorem dX7_form_64 : decode cX7_form 64 = .ok (.getfield 192, 3) := by decide +kernel
theorem dX7_form_67 : decode cX7_form 67 = .ok (.iload_n 3, 1) := by decide +kernel
theorem dX7_form_68 : decode cX7_form 68 = .ok (.laload, 1) := by decide +kernel
theorem dX7_form_69 : decode cX7_form 69 = .ok (.lreturn, 1) := by decide +kernel
theorem dX7_reach_0 : decode cX7_reach 0 = .ok (.aload_n 0, 1) := by decide +kernel
theorem dX7_reach_1 : decode cX7_reach 1 = .ok (.getfield 50, 3) := by decide +kernel
theorem dX7_reach_4 : decode cX7_reach 4 = .ok (.iload_n 1, 1) := by decide +kernel
theorem dX7_reach_5 : decode cX7_reach 5 = .ok (.invokevirtual 118, 3) := by decide +kernel
theorem dX7_reach_8 : decode cX7_reach 8 = .ok (.ifCond .eq 12, 3) := by decide +kernel
theorem dX7_reach_11 : decode cX7_reach 11 = .ok (.iload_n 3, 1) := by decide +kernel
theorem dX7_reach_12 : decode cX7_reach 12 = .ok (.ifCond .lt 8, 3) := by decide +kernel
theorem dX7_reach_15 : decode cX7_reach 15 = .ok (.iload_n 3, 1) := by decide +kernel
theorem dX7_reach_16 : decode cX7_reach 16 = .ok (.iconst 2, 1) := by decide +kernel
theorem dX7_reach_17 : decode cX7_reach 17 = .ok (.if_icmp .le 9, 3) := by decide +kernel
theorem dX7_reach_20 : decode cX7_reach 20 = .ok (.aload_n 0, 1) := by decide +kernel
theorem dX7_reach_21 : decode cX7_reach 21 = .ok (.iconst 1, 1) := by decide +kernel
theorem dX7_reach_22 : decode cX7_reach 22 = .ok (.invokevirtual 122, 3) := by decide +kernel
theorem dX7_reach_25 : decode cX7_reach 25 = .ok (.lreturn, 1) := by decide +kernel
theorem dX7_reach_26 : decode cX7_reach 26 = .ok (.aload_n 0, 1) := by decide +kernel
theorem dX7_reach_27 : decode cX7_reach 27 = .ok (.iconst 0, 1) := by decide +kernel
theorem dX7_reach_28 : decode cX7_reach 28 = .ok (.putfield 61, 3) := by decide +kernel
theorem dX7_reach_31 : decode cX7_reach 31 = .ok (.aload_n 0, 1) := by decide +kernel
theorem dX7_reach_32 : decode cX7_reach 32 = .ok (.getfield 29, 3) := by decide +kernel
theorem dX7_reach_35 : decode cX7_reach 35 = .ok (.iload_n 1, 1) := by decide +kernel
theorem dX7_reach_36 : decode cX7_reach 36 = .ok (.iload_n 2, 1) := by decide +kernel
theorem dX7_reach_37 : decode cX7_reach 37 = .ok (.invokevirtual 182, 3) := by decide +kernel
theorem dX7_reach_40 : decode cX7_reach 40 = .ok (.astore 4, 2) := by decide +kernel
theorem dX7_reach_42 : decode cX7_reach 42 = .ok (.iload_n 3, 1) := by decide +kernel
theorem dX7_reach_43 : decode cX7_reach 43 = .ok (.lookupswitch 37 #[(0, 25), (1, 31)], 25) := by decide +kernel
theorem dX7_reach_68 : decode cX7_reach 68 = .ok (.aload 4, 2) := by decide +kernel
theorem dX7_reach_70 : decode cX7_reach 70 = .ok (.invokevirtual 195, 3) := by decide +kernel
theorem dX7_reach_73 : decode cX7_reach 73 = .ok (.lreturn, 1) := by decide +kernel
theorem dX7_reach_74 : decode cX7_reach 74 = .ok (.aload 4, 2) := by decide +kernel
theorem dX7_reach_76 : decode cX7_reach 76 = .ok (.invokevirtual 198, 3) := by decide +kernel
theorem dX7_reach_79 : decode cX7_reach 79 = .ok (.lreturn, 1) := by decide +kernel
theorem dX7_reach_80 : decode cX7_reach 80 = .ok (.aload 4, 2) := by decide +kernel
theorem dX7_reach_82 : decode cX7_reach 82 = .ok (.invokevirtual 201, 3) := by decide +kernel
theorem dX7_reach_85 : decode cX7_reach 85 = .ok (.lreturn, 1) := by decide +kernel
theorem dX7_bound_0 : decode cX7_bound 0 = .ok (.aload_n 0, 1) := by decide +kernel
theorem dX7_bound_1 : decode cX7_bound 1 = .ok (.getfield 50, 3) := by decide +kernel
theorem dX7_bound_4 : decode cX7_bound 4 = .ok (.iload_n 1, 1) := by decide +kernel
theorem dX7_bound_5 : decode cX7_bound 5 = .ok (.invokevirtual 118, 3) := by decide +kernel
theorem dX7_bound_8 : decode cX7_bound 8 = .ok (.ifCond .ne 9, 3) := by decide +kernel
theorem dX7_bound_11 : decode cX7_bound 11 = .ok (.aload_n 0, 1) := by decide +kernel
theorem dX7_bound_12 : decode cX7_bound 12 = .ok (.iconst 1, 1) := by decide +kernel
theorem dX7_bound_13 : decode cX7_bound 13 = .ok (.invokevirtual 122, 3) := by decide +kernel
theorem dX7_bound_16 : decode cX7_bound 16 = .ok (.lreturn, 1) := by decide +kernel
theorem dX7_bound_17 : decode cX7_bound 17 = .ok (.aload_n 0, 1) := by decide +kernel
theorem dX7_bound_18 : decode cX7_bound 18 = .ok (.iconst 0, 1) := by decide +kernel
theorem dX7_bound_19 : decode cX7_bound 19 = .ok (.putfield 61, 3) := by decide +kernel
theorem dX7_bound_22 : decode cX7_bound 22 = .ok (.aload_n 0, 1) := by decide +kernel
theorem dX7_bound_23 : decode cX7_bound 23 = .ok (.getfield 29, 3) := by decide +kernel
theorem dX7_bound_26 : decode cX7_bound 26 = .ok (.iload_n 1, 1) := by decide +kernel
theorem dX7_bound_27 : decode cX7_bound 27 = .ok (.invokevirtual 204, 3) := by decide +kernel
theorem dX7_bound_30 : decode cX7_bound 30 = .ok (.lreturn, 1) := by decide +kernel
theorem dX7_noise_0 : decode cX7_noise 0 = .ok (.aload_n 0, 1) := by decide +kernel
theorem dX7_noise_1 : decode cX7_noise 1 = .ok (.getfield 50, 3) := by decide +kernel
theorem dX7_noise_4 : decode cX7_noise 4 = .ok (.getfield 96, 3) := by decide +kernel
theorem dX7_noise_7 : decode cX7_noise 7 = .ok (.ifCond .eq 27, 3) := by decide +kernel
theorem dX7_noise_10 : decode cX7_noise 10 = .ok (.iload_n 1, 1) := by decide +kernel
theorem dX7_noise_11 : decode cX7_noise 11 = .ok (.ifCond .lt 23, 3) := by decide +kernel
theorem dX7_noise_14 : decode cX7_noise 14 = .ok (.iload_n 1, 1) := by decide +kernel
theorem dX7_noise_15 : decode cX7_noise 15 = .ok (.aload_n 0, 1) := by decide +kernel
theorem dX7_noise_16 : decode cX7_noise 16 = .ok (.getfield 29, 3) := by decide +kernel
theorem dX7_noise_19 : decode cX7_noise 19 = .ok (.getfield 103, 3) := by decide +kernel
theorem dX7_noise_22 : decode cX7_noise 22 = .ok (.if_icmp .ge 12, 3) := by decide +kernel
theorem dX7_noise_25 : decode cX7_noise 25 = .ok (.iload_n 2, 1) := by decide +kernel
theorem dX7_noise_26 : decode cX7_noise 26 = .ok (.ifCond .lt 8, 3) := by decide +kernel
theorem dX7_noise_29 : decode cX7_noise 29 = .ok (.iload_n 2, 1) := by decide +kernel
theorem dX7_noise_30 : decode cX7_noise 30 = .ok (.iconst 1, 1) := by decide +kernel
theorem dX7_noise_31 : decode cX7_noise 31 = .ok (.if_icmp .le 9, 3) := by decide +kernel
theorem dX7_noise_34 : decode cX7_noise 34 = .ok (.aload_n 0, 1) := by decide +kernel
theorem dX7_noise_35 : decode cX7_noise 35 = .ok (.iconst 1, 1) := by decide +kernel
theorem dX7_noise_36 : decode cX7_noise 36 = .ok (.invokevirtual 74, 3) := by decide +kernel
theorem dX7_noise_39 : decode cX7_noise 39 = .ok (.ireturn, 1) := by decide +kernel
theorem dX7_noise_40 : decode cX7_noise 40 = .ok (.aload_n 0, 1) := by decide +kernel
theorem dX7_noise_41 : decode cX7_noise 41 = .ok (.iconst 0, 1) := by decide +kernel
theorem dX7_noise_42 : decode cX7_noise 42 = .ok (.putfield 61, 3) := by decide +kernel
theorem dX7_noise_45 : decode cX7_noise 45 = .ok (.iload_n 2, 1) := by decide +kernel
theorem dX7_noise_46 : decode cX7_noise 46 = .ok (.ifCond .ne 15, 3) := by decide +kernel
theorem dX7_noise_49 : decode cX7_noise 49 = .ok (.aload_n 0, 1) := by decide +kernel
theorem dX7_noise_50 : decode cX7_noise 50 = .ok (.getfield 29, 3) := by decide +kernel
theorem dX7_noise_53 : decode cX7_noise 53 = .ok (.getfield 207, 3) := by decide +kernel
theorem dX7_noise_56 : decode cX7_noise 56 = .ok (.iload_n 1, 1) := by decide +kernel
theorem dX7_noise_57 : decode cX7_noise 57 = .ok (.iaload, 1) := by decide +kernel
theorem dX7_noise_58 : decode cX7_noise 58 = .ok (.goto 12, 3) := by decide +kernel
theorem dX7_noise_61 : decode cX7_noise 61 = .ok (.aload_n 0, 1) := by decide +kernel
theorem dX7_noise_62 : decode cX7_noise 62 = .ok (.getfield 29, 3) := by decide +kernel
theorem dX7_noise_65 : decode cX7_noise 65 = .ok (.getfield 210, 3) := by decide +kernel
theorem dX7_noise_68 : decode cX7_noise 68 = .ok (.iload_n 1, 1) := by decide +kernel
theorem dX7_noise_69 : decode cX7_noise 69 = .ok (.iaload, 1) := by decide +kernel
theorem dX7_noise_70 : decode cX7_noise 70 = .ok (.ireturn, 1) := by decide +kernel
theorem dX7_shared_0 : decode cX7_shared 0 = .ok (.aload_n 0, 1) := by decide +kernel
theorem dX7_shared_1 : decode cX7_shared 1 = .ok (.getfield 50, 3) := by decide +kernel
theorem dX7_shared_4 : decode cX7_shared 4 = .ok (.iload_n 1, 1) := by decide +kernel
theorem dX7_shared_5 : decode cX7_shared 5 = .ok (.invokevirtual 118, 3) := by decide +kernel
theorem dX7_shared_8 : decode cX7_shared 8 = .ok (.ifCond .eq 14, 3) := by decide +kernel
theorem dX7_shared_11 : decode cX7_shared 11 = .ok (.aload_n 0, 1) := by decide +kernel
theorem dX7_shared_12 : decode cX7_shared 12 = .ok (.getfield 50, 3) := by decide +kernel
theorem dX7_shared_15 : decode cX7_shared 15 = .ok (.iload_n 2, 1) := by decide +kernel
theorem dX7_shared_16 : decode cX7_shared 16 = .ok (.invokevirtual 118, 3) := by decide +kernel
theorem dX7_shared_19 : decode cX7_shared 19 = .ok (.ifCond .ne 9, 3) := by decide +kernel
theorem dX7_shared_22 : decode cX7_shared 22 = .ok (.aload_n 0, 1) := by decide +kernel
theorem dX7_shared_23 : decode cX7_shared 23 = .ok (.iconst 1, 1) := by decide +kernel
theorem dX7_shared_24 : decode cX7_shared 24 = .ok (.invokevirtual 74, 3) := by decide +kernel
theorem dX7_shared_27 : decode cX7_shared 27 = .ok (.ireturn, 1) := by decide +kernel
theorem dX7_shared_28 : decode cX7_shared 28 = .ok (.aload_n 0, 1) := by decide +kernel
theorem dX7_shared_29 : decode cX7_shared 29 = .ok (.iconst 0, 1) := by decide +kernel
theorem dX7_shared_30 : decode cX7_shared 30 = .ok (.putfield 61, 3) := by decide +kernel
theorem dX7_shared_33 : decode cX7_shared 33 = .ok (.aload_n 0, 1) := by decide +kernel
theorem dX7_shared_34 : decode cX7_shared 34 = .ok (.getfield 29, 3) := by decide +kernel
theorem dX7_shared_37 : decode cX7_shared 37 = .ok (.iload_n 1, 1) := by decide +kernel
theorem dX7_shared_38 : decode cX7_shared 38 = .ok (.iload_n 2, 1) := by decide +kernel
theorem dX7_shared_39 : decode cX7_shared 39 = .ok (.invokevirtual 213, 3) := by decide +kernel
theorem dX7_shared_42 : decode cX7_shared 42 = .ok (.ireturn, 1) := by decide +kernel
theorem dX7_part_0 : decode cX7_part 0 = .ok (.aload_n 0, 1) := by decide +kernel
theorem dX7_part_1 : decode cX7_part 1 = .ok (.getfield 50, 3) := by decide +kernel
theorem dX7_part_4 : decode cX7_part 4 = .ok (.iload_n 1, 1) := by decide +kernel
theorem dX7_part_5 : decode cX7_part 5 = .ok (.invokevirtual 118, 3) := by decide +kernel
theorem dX7_part_8 : decode cX7_part 8 = .ok (.ifCond .eq 14, 3) := by decide +kernel
theorem dX7_part_11 : decode cX7_part 11 = .ok (.aload_n 0, 1) := by decide +kernel
theorem dX7_part_12 : decode cX7_part 12 = .ok (.getfield 50, 3) := by decide +kernel
theorem dX7_part_15 : decode cX7_part 15 = .ok (.iload_n 2, 1) := by decide +kernel
theorem dX7_part_16 : decode cX7_part 16 = .ok (.invokevirtual 147, 3) := by decide +kernel
theorem dX7_part_19 : decode cX7_part 19 = .ok (.ifCond .ne 9, 3) := by decide +kernel
theorem dX7_part_22 : decode cX7_part 22 = .ok (.aload_n 0, 1) := by decide +kernel
theorem dX7_part_23 : decode cX7_part 23 = .ok (.iconst 1, 1) := by decide +kernel
theorem dX7_part_24 : decode cX7_part 24 = .ok (.invokevirtual 122, 3) := by decide +kernel
theorem dX7_part_27 : decode cX7_part 27 = .ok (.lreturn, 1) := by decide +kernel
theorem dX7_part_28 : decode cX7_part 28 = .ok (.aload_n 0, 1) := by decide +kernel
theorem dX7_part_29 : decode cX7_part 29 = .ok (.iconst 0, 1) := by decide +kernel
theorem dX7_part_30 : decode cX7_part 30 = .ok (.putfield 61, 3) := by decide +kernel
theorem dX7_part_33 : decode cX7_part 33 = .ok (.aload_n 0, 1) := by decide +kernel
theorem dX7_part_34 : decode cX7_part 34 = .ok (.getfield 29, 3) := by decide +kernel
theorem dX7_part_37 : decode cX7_part 37 = .ok (.iload_n 1, 1) := by decide +kernel
theorem dX7_part_38 : decode cX7_part 38 = .ok (.iload_n 2, 1) := by decide +kernel
theorem dX7_part_39 : decode cX7_part 39 = .ok (.invokevirtual 217, 3) := by decide +kernel
theorem dX7_part_42 : decode cX7_part 42 = .ok (.lreturn, 1) := by decide +kernel
theorem dX7_blame_0 : decode cX7_blame 0 = .ok (.aload_n 0, 1) := by decide +kernel
theorem dX7_blame_1 : decode cX7_blame 1 = .ok (.getfield 50, 3) := by decide +kernel
theorem dX7_blame_4 : decode cX7_blame 4 = .ok (.iload_n 1, 1) := by decide +kernel
theorem dX7_blame_5 : decode cX7_blame 5 = .ok (.invokevirtual 118, 3) := by decide +kernel
theorem dX7_blame_8 : decode cX7_blame 8 = .ok (.ifCond .ne 9, 3) := by decide +kernel
theorem dX7_blame_11 : decode cX7_blame 11 = .ok (.aload_n 0, 1) := by decide +kernel
theorem dX7_blame_12 : decode cX7_blame 12 = .ok (.iconst 1, 1) := by decide +kernel
theorem dX7_blame_13 : decode cX7_blame 13 = .ok (.invokevirtual 74, 3) := by decide +kernel
theorem dX7_blame_16 : decode cX7_blame 16 = .ok (.ireturn, 1) := by decide +kernel
theorem dX7_blame_17 : decode cX7_blame 17 = .ok (.aload_n 0, 1) := by decide +kernel
theorem dX7_blame_18 : decode cX7_blame 18 = .ok (.iconst 0, 1) := by decide +kernel
theorem dX7_blame_19 : decode cX7_blame 19 = .ok (.putfield 61, 3) := by decide +kernel
theorem dX7_blame_22 : decode cX7_blame 22 = .ok (.aload_n 0, 1) := by decide +kernel
theorem dX7_blame_23 : decode cX7_blame 23 = .ok (.getfield 29, 3) := by decide +kernel
theorem dX7_blame_26 : decode cX7_blame 26 = .ok (.aload_n 0, 1) := by decide +kernel
theorem dX7_blame_27 : decode cX7_blame 27 = .ok (.getfield 50, 3) := by decide +kernel
theorem dX7_blame_30 : decode cX7_blame 30 = .ok (.iload_n 1, 1) := by decide +kernel
theorem dX7_blame_31 : decode cX7_blame 31 = .ok (.invokevirtual 221, 3) := by decide +kernel
theorem dX7_blame_34 : decode cX7_blame 34 = .ok (.ireturn, 1) := by decide +kernel
theorem dX7_may_0 : decode cX7_may 0 = .ok (.aload_n 0, 1) := by decide +kernel
theorem dX7_may_1 : decode cX7_may 1 = .ok (.getfield 50, 3) := by decide +kernel
theorem dX7_may_4 : decode cX7_may 4 = .ok (.iload_n 1, 1) := by decide +kernel
theorem dX7_may_5 : decode cX7_may 5 = .ok (.invokevirtual 147, 3) := by decide +kernel
theorem dX7_may_8 : decode cX7_may 8 = .ok (.ifCond .ne 9, 3) := by decide +kernel
theorem dX7_may_11 : decode cX7_may 11 = .ok (.aload_n 0, 1) := by decide +kernel
theorem dX7_may_12 : decode cX7_may 12 = .ok (.iconst 1, 1) := by decide +kernel
theorem dX7_may_13 : decode cX7_may 13 = .ok (.invokevirtual 74, 3) := by decide +kernel
theorem dX7_may_16 : decode cX7_may 16 = .ok (.ireturn, 1) := by decide +kernel
theorem dX7_may_17 : decode cX7_may 17 = .ok (.aload_n 0, 1) := by decide +kernel
theorem dX7_may_18 : decode cX7_may 18 = .ok (.getfield 50, 3) := by decide +kernel
theorem dX7_may_21 : decode cX7_may 21 = .ok (.iload_n 1, 1) := by decide +kernel
theorem dX7_may_22 : decode cX7_may 22 = .ok (.invokevirtual 175, 3) := by decide +kernel
theorem dX7_may_25 : decode cX7_may 25 = .ok (.ifCond .ne 9, 3) := by decide +kernel
theorem dX7_may_28 : decode cX7_may 28 = .ok (.aload_n 0, 1) := by decide +kernel
theorem dX7_may_29 : decode cX7_may 29 = .ok (.iconst 5, 1) := by decide +kernel
theorem dX7_may_30 : decode cX7_may 30 = .ok (.invokevirtual 74, 3) := by decide +kernel
theorem dX7_may_33 : decode cX7_may 33 = .ok (.ireturn, 1) := by decide +kernel
theorem dX7_may_34 : decode cX7_may 34 = .ok (.aload_n 0, 1) := by decide +kernel
theorem dX7_may_35 : decode cX7_may 35 = .ok (.iconst 0, 1) := by decide +kernel
theorem dX7_may_36 : decode cX7_may 36 = .ok (.putfield 61, 3) := by decide +kernel
theorem dX7_may_39 : decode cX7_may 39 = .ok (.aload_n 0, 1) := by decide +kernel
theorem dX7_may_40 : decode cX7_may 40 = .ok (.getfield 29, 3) := by decide +kernel
theorem dX7_may_43 : decode cX7_may 43 = .ok (.getfield 224, 3) := by decide +kernel
theorem dX7_may_46 : decode cX7_may 46 = .ok (.iload_n 1, 1) := by decide +kernel
theorem dX7_may_47 : decode cX7_may 47 = .ok (.iaload, 1) := by decide +kernel
theorem dX7_may_48 : decode cX7_may 48 = .ok (.ireturn, 1) := by decide +kernel
theorem dX7_split_0 : decode cX7_split 0 = .ok (.aload_n 0, 1) := by decide +kernel
theorem dX7_split_1 : decode cX7_split 1 = .ok (.getfield 50, 3) := by decide +kernel
theorem dX7_split_4 : decode cX7_split 4 = .ok (.iload_n 1, 1) := by decide +kernel
theorem dX7_split_5 : decode cX7_split 5 = .ok (.invokevirtual 118, 3) := by decide +kernel
theorem dX7_split_8 : decode cX7_split 8 = .ok (.ifCond .eq 12, 3) := by decide +kernel
theorem dX7_split_11 : decode cX7_split 11 = .ok (.iload_n 3, 1) := by decide +kernel
theorem dX7_split_12 : decode cX7_split 12 = .ok (.ifCond .lt 8, 3) := by decide +kernel
theorem dX7_split_15 : decode cX7_split 15 = .ok (.iload_n 3, 1) := by decide +kernel
theorem dX7_split_16 : decode cX7_split 16 = .ok (.iconst 1, 1) := by decide +kernel
theorem dX7_split_17 : decode cX7_split 17 = .ok (.if_icmp .le 9, 3) := by decide +kernel
theorem dX7_split_20 : decode cX7_split 20 = .ok (.aload_n 0, 1) := by decide +kernel
theorem dX7_split_21 : decode cX7_split 21 = .ok (.iconst 1, 1) := by decide +kernel
theorem dX7_split_22 : decode cX7_split 22 = .ok (.invokevirtual 122, 3) := by decide +kernel
theorem dX7_split_25 : decode cX7_split 25 = .ok (.lreturn, 1) := by decide +kernel
theorem dX7_split_26 : decode cX7_split 26 = .ok (.iload_n 2, 1) := by decide +kernel
theorem dX7_split_27 : decode cX7_split 27 = .ok (.ifCond .lt 9, 3) := by decide +kernel
theorem dX7_split_30 : decode cX7_split 30 = .ok (.iload_n 2, 1) := by decide +kernel
theorem dX7_split_31 : decode cX7_split 31 = .ok (.bipush 40, 2) := by decide +kernel
theorem dX7_split_33 : decode cX7_split 33 = .ok (.if_icmp .le 9, 3) := by decide +kernel
theorem dX7_split_36 : decode cX7_split 36 = .ok (.aload_n 0, 1) := by decide +kernel
theorem dX7_split_37 : decode cX7_split 37 = .ok (.iconst 2, 1) := by decide +kernel
theorem dX7_split_38 : decode cX7_split 38 = .ok (.invokevirtual 122, 3) := by decide +kernel
theorem dX7_split_41 : decode cX7_split 41 = .ok (.lreturn, 1) := by decide +kernel
theorem dX7_split_42 : decode cX7_split 42 = .ok (.aload_n 0, 1) := by decide +kernel
theorem dX7_split_43 : decode cX7_split 43 = .ok (.iconst 0, 1) := by decide +kernel
theorem dX7_split_44 : decode cX7_split 44 = .ok (.putfield 61, 3) := by decide +kernel
theorem dX7_split_47 : decode cX7_split 47 = .ok (.aload_n 0, 1) := by decide +kernel
theorem dX7_split_48 : decode cX7_split 48 = .ok (.getfield 36, 3) := by decide +kernel
theorem dX7_split_51 : decode cX7_split 51 = .ok (.aload_n 0, 1) := by decide +kernel
theorem dX7_split_52 : decode cX7_split 52 = .ok (.getfield 50, 3) := by decide +kernel
theorem dX7_split_55 : decode cX7_split 55 = .ok (.iload_n 1, 1) := by decide +kernel
theorem dX7_split_56 : decode cX7_split 56 = .ok (.invokevirtual 227, 3) := by decide +kernel
theorem dX7_split_59 : decode cX7_split 59 = .ok (.iconst 1, 1) := by decide +kernel
theorem dX7_split_60 : decode cX7_split 60 = .ok (.istore 4, 2) := by decide +kernel
theorem dX7_split_62 : decode cX7_split 62 = .ok (.iconst 0, 1) := by decide +kernel
theorem dX7_split_63 : decode cX7_split 63 = .ok (.istore 5, 2) := by decide +kernel
theorem dX7_split_65 : decode cX7_split 65 = .ok (.iload 5, 2) := by decide +kernel
theorem dX7_split_67 : decode cX7_split 67 = .ok (.iload_n 2, 1) := by decide +kernel
theorem dX7_split_68 : decode cX7_split 68 = .ok (.if_icmp .ge 23, 3) := by decide +kernel
theorem dX7_split_71 : decode cX7_split 71 = .ok (.iload 4, 2) := by decide +kernel
theorem dX7_split_73 : decode cX7_split 73 = .ok (.ifCond .eq 18, 3) := by decide +kernel
theorem dX7_split_76 : decode cX7_split 76 = .ok (.aload_n 0, 1) := by decide +kernel
theorem dX7_split_77 : decode cX7_split 77 = .ok (.getfield 36, 3) := by decide +kernel
theorem dX7_split_80 : decode cX7_split 80 = .ok (.invokevirtual 231, 3) := by decide +kernel
theorem dX7_split_83 : decode cX7_split 83 = .ok (.istore 4, 2) := by decide +kernel
theorem dX7_split_85 : decode cX7_split 85 = .ok (.iinc 5 1, 3) := by decide +kernel
theorem dX7_split_88 : decode cX7_split 88 = .ok (.goto (-23), 3) := by decide +kernel
theorem dX7_split_91 : decode cX7_split 91 = .ok (.iload_n 3, 1) := by decide +kernel
theorem dX7_split_92 : decode cX7_split 92 = .ok (.ifCond .ne 13, 3) := by decide +kernel
theorem dX7_split_95 : decode cX7_split 95 = .ok (.aload_n 0, 1) := by decide +kernel
theorem dX7_split_96 : decode cX7_split 96 = .ok (.getfield 36, 3) := by decide +kernel
theorem dX7_split_99 : decode cX7_split 99 = .ok (.invokevirtual 235, 3) := by decide +kernel
theorem dX7_split_102 : decode cX7_split 102 = .ok (.goto 11, 3) := by decide +kernel
theorem dX7_split_105 : decode cX7_split 105 = .ok (.aload_n 0, 1) := by decide +kernel
theorem dX7_split_106 : decode cX7_split 106 = .ok (.getfield 36, 3) := by decide +kernel
theorem dX7_split_109 : decode cX7_split 109 = .ok (.invokevirtual 238, 3) := by decide +kernel
theorem dX7_split_112 : decode cX7_split 112 = .ok (.i2l, 1) := by decide +kernel
theorem dX7_split_113 : decode cX7_split 113 = .ok (.lreturn, 1) := by decide +kernel
theorem dX7_splits_0 : decode cX7_splits 0 = .ok (.aload_n 0, 1) := by decide +kernel
theorem dX7_splits_1 : decode cX7_splits 1 = .ok (.getfield 50, 3) := by decide +kernel
theorem dX7_splits_4 : decode cX7_splits 4 = .ok (.iload_n 1, 1) := by decide +kernel
theorem dX7_splits_5 : decode cX7_splits 5 = .ok (.invokevirtual 118, 3) := by decide +kernel
theorem dX7_splits_8 : decode cX7_splits 8 = .ok (.ifCond .ne 9, 3) := by decide +kernel
theorem dX7_splits_11 : decode cX7_splits 11 = .ok (.aload_n 0, 1) := by decide +kernel
theorem dX7_splits_12 : decode cX7_splits 12 = .ok (.iconst 1, 1) := by decide +kernel
theorem dX7_splits_13 : decode cX7_splits 13 = .ok (.invokevirtual 74, 3) := by decide +kernel
theorem dX7_splits_16 : decode cX7_splits 16 = .ok (.ireturn, 1) := by decide +kernel
theorem dX7_splits_17 : decode cX7_splits 17 = .ok (.iload_n 2, 1) := by decide +kernel
theorem dX7_splits_18 : decode cX7_splits 18 = .ok (.invokestatic 241, 3) := by decide +kernel
theorem dX7_splits_21 : decode cX7_splits 21 = .ok (.ifCond .ne 9, 3) := by decide +kernel
theorem dX7_splits_24 : decode cX7_splits 24 = .ok (.aload_n 0, 1) := by decide +kernel
theorem dX7_splits_25 : decode cX7_splits 25 = .ok (.iconst 2, 1) := by decide +kernel
theorem dX7_splits_26 : decode cX7_splits 26 = .ok (.invokevirtual 74, 3) := by decide +kernel
theorem dX7_splits_29 : decode cX7_splits 29 = .ok (.ireturn, 1) := by decide +kernel
theorem dX7_splits_30 : decode cX7_splits 30 = .ok (.aload_n 0, 1) := by decide +kernel
theorem dX7_splits_31 : decode cX7_splits 31 = .ok (.iconst 0, 1) := by decide +kernel
theorem dX7_splits_32 : decode cX7_splits 32 = .ok (.putfield 61, 3) := by decide +kernel
theorem dX7_splits_35 : decode cX7_splits 35 = .ok (.aload_n 0, 1) := by decide +kernel
theorem dX7_splits_36 : decode cX7_splits 36 = .ok (.getfield 36, 3) := by decide +kernel
theorem dX7_splits_39 : decode cX7_splits 39 = .ok (.aload_n 0, 1) := by decide +kernel
theorem dX7_splits_40 : decode cX7_splits 40 = .ok (.getfield 50, 3) := by decide +kernel
theorem dX7_splits_43 : decode cX7_splits 43 = .ok (.iload_n 1, 1) := by decide +kernel
theorem dX7_splits_44 : decode cX7_splits 44 = .ok (.invokevirtual 227, 3) := by decide +kernel
theorem dX7_splits_47 : decode cX7_splits 47 = .ok (.iconst 0, 1) := by decide +kernel
theorem dX7_splits_48 : decode cX7_splits 48 = .ok (.istore_n 3, 1) := by decide +kernel
theorem dX7_splits_49 : decode cX7_splits 49 = .ok (.iload_n 3, 1) := by decide +kernel
theorem dX7_splits_50 : decode cX7_splits 50 = .ok (.bipush 40, 2) := by decide +kernel
theorem dX7_splits_52 : decode cX7_splits 52 = .ok (.if_icmp .gt 43, 3) := by decide +kernel
theorem dX7_splits_55 : decode cX7_splits 55 = .ok (.aload_n 0, 1) := by decide +kernel
theorem dX7_splits_56 : decode cX7_splits 56 = .ok (.getfield 36, 3) := by decide +kernel
theorem dX7_splits_59 : decode cX7_splits 59 = .ok (.invokevirtual 235, 3) := by decide +kernel
theorem dX7_splits_62 : decode cX7_splits 62 = .ok (.iload_n 2, 1) := by decide +kernel
theorem dX7_splits_63 : decode cX7_splits 63 = .ok (.i2l, 1) := by decide +kernel
theorem dX7_splits_64 : decode cX7_splits 64 = .ok (.lcmp, 1) := by decide +kernel
theorem dX7_splits_65 : decode cX7_splits 65 = .ok (.ifCond .gt 5, 3) := by decide +kernel
theorem dX7_splits_68 : decode cX7_splits 68 = .ok (.iload_n 3, 1) := by decide +kernel
theorem dX7_splits_69 : decode cX7_splits 69 = .ok (.ireturn, 1) := by decide +kernel
theorem dX7_splits_70 : decode cX7_splits 70 = .ok (.iload_n 3, 1) := by decide +kernel
theorem dX7_splits_71 : decode cX7_splits 71 = .ok (.bipush 40, 2) := by decide +kernel
theorem dX7_splits_73 : decode cX7_splits 73 = .ok (.if_icmp .eq 13, 3) := by decide +kernel
theorem dX7_splits_76 : decode cX7_splits 76 = .ok (.aload_n 0, 1) := by decide +kernel
theorem dX7_splits_77 : decode cX7_splits 77 = .ok (.getfield 36, 3) := by decide +kernel
theorem dX7_splits_80 : decode cX7_splits 80 = .ok (.invokevirtual 231, 3) := by decide +kernel
theorem dX7_splits_83 : decode cX7_splits 83 = .ok (.ifCond .ne 6, 3) := by decide +kernel
theorem dX7_splits_86 : decode cX7_splits 86 = .ok (.bipush (-2), 2) := by decide +kernel
theorem dX7_splits_88 : decode cX7_splits 88 = .ok (.ireturn, 1) := by decide +kernel
theorem dX7_splits_89 : decode cX7_splits 89 = .ok (.iinc 3 1, 3) := by decide +kernel
theorem dX7_splits_92 : decode cX7_splits 92 = .ok (.goto (-43), 3) := by decide +kernel
theorem dX7_splits_95 : decode cX7_splits 95 = .ok (.bipush (-2), 2) := by decide +kernel
theorem dX7_splits_97 : decode cX7_splits 97 = .ok (.ireturn, 1) := by decide +kernel
theorem dX7_climb_0 : decode cX7_climb 0 = .ok (.aload_n 0, 1) := by decide +kernel
theorem dX7_climb_1 : decode cX7_climb 1 = .ok (.getfield 50, 3) := by decide +kernel
theorem dX7_climb_4 : decode cX7_climb 4 = .ok (.iload_n 1, 1) := by decide +kernel
theorem dX7_climb_5 : decode cX7_climb 5 = .ok (.invokevirtual 118, 3) := by decide +kernel
theorem dX7_climb_8 : decode cX7_climb 8 = .ok (.ifCond .ne 9, 3) := by decide +kernel
theorem dX7_climb_11 : decode cX7_climb 11 = .ok (.aload_n 0, 1) := by decide +kernel
theorem dX7_climb_12 : decode cX7_climb 12 = .ok (.iconst 1, 1) := by decide +kernel
theorem dX7_climb_13 : decode cX7_climb 13 = .ok (.invokevirtual 122, 3) := by decide +kernel
theorem dX7_climb_16 : decode cX7_climb 16 = .ok (.lreturn, 1) := by decide +kernel
theorem dX7_climb_17 : decode cX7_climb 17 = .ok (.iload_n 2, 1) := by decide +kernel
theorem dX7_climb_18 : decode cX7_climb 18 = .ok (.iconst 1, 1) := by decide +kernel
theorem dX7_climb_19 : decode cX7_climb 19 = .ok (.if_icmp .lt 16, 3) := by decide +kernel
theorem dX7_climb_22 : decode cX7_climb 22 = .ok (.iload_n 2, 1) := by decide +kernel
theorem dX7_climb_23 : decode cX7_climb 23 = .ok (.bipush 10, 2) := by decide +kernel
theorem dX7_climb_25 : decode cX7_climb 25 = .ok (.if_icmp .gt 10, 3) := by decide +kernel
theorem dX7_climb_28 : decode cX7_climb 28 = .ok (.iload_n 3, 1) := by decide +kernel
theorem dX7_climb_29 : decode cX7_climb 29 = .ok (.invokestatic 244, 3) := by decide +kernel
theorem dX7_climb_32 : decode cX7_climb 32 = .ok (.ifCond .ne 9, 3) := by decide +kernel
theorem dX7_climb_35 : decode cX7_climb 35 = .ok (.aload_n 0, 1) := by decide +kernel
theorem dX7_climb_36 : decode cX7_climb 36 = .ok (.iconst 2, 1) := by decide +kernel
theorem dX7_climb_37 : decode cX7_climb 37 = .ok (.invokevirtual 122, 3) := by decide +kernel
theorem dX7_climb_40 : decode cX7_climb 40 = .ok (.lreturn, 1) := by decide +kernel
theorem dX7_climb_41 : decode cX7_climb 41 = .ok (.aload_n 0, 1) := by decide +kernel
theorem dX7_climb_42 : decode cX7_climb 42 = .ok (.iconst 0, 1) := by decide +kernel
theorem dX7_climb_43 : decode cX7_climb 43 = .ok (.putfield 61, 3) := by decide +kernel
theorem dX7_climb_46 : decode cX7_climb 46 = .ok (.aload_n 0, 1) := by decide +kernel
theorem dX7_climb_47 : decode cX7_climb 47 = .ok (.getfield 43, 3) := by decide +kernel
theorem dX7_climb_50 : decode cX7_climb 50 = .ok (.aload_n 0, 1) := by decide +kernel
theorem dX7_climb_51 : decode cX7_climb 51 = .ok (.getfield 50, 3) := by decide +kernel
theorem dX7_climb_54 : decode cX7_climb 54 = .ok (.iload_n 1, 1) := by decide +kernel
theorem dX7_climb_55 : decode cX7_climb 55 = .ok (.iload_n 2, 1) := by decide +kernel
theorem dX7_climb_56 : decode cX7_climb 56 = .ok (.iload_n 3, 1) := by decide +kernel
theorem dX7_climb_57 : decode cX7_climb 57 = .ok (.invokevirtual 247, 3) := by decide +kernel
theorem dX7_climb_60 : decode cX7_climb 60 = .ok (.aload_n 0, 1) := by decide +kernel
theorem dX7_climb_61 : decode cX7_climb 61 = .ok (.getfield 43, 3) := by decide +kernel
theorem dX7_climb_64 : decode cX7_climb 64 = .ok (.getfield 251, 3) := by decide +kernel
theorem dX7_climb_67 : decode cX7_climb 67 = .ok (.lreturn, 1) := by decide +kernel
theorem dX7_witness_0 : decode cX7_witness 0 = .ok (.aload_n 0, 1) := by decide +kernel
theorem dX7_witness_1 : decode cX7_witness 1 = .ok (.getfield 50, 3) := by decide +kernel
theorem dX7_witness_4 : decode cX7_witness 4 = .ok (.iload_n 1, 1) := by decide +kernel
theorem dX7_witness_5 : decode cX7_witness 5 = .ok (.invokevirtual 118, 3) := by decide +kernel
theorem dX7_witness_8 : decode cX7_witness 8 = .ok (.ifCond .ne 9, 3) := by decide +kernel
theorem dX7_witness_11 : decode cX7_witness 11 = .ok (.aload_n 0, 1) := by decide +kernel
theorem dX7_witness_12 : decode cX7_witness 12 = .ok (.iconst 1, 1) := by decide +kernel
theorem dX7_witness_13 : decode cX7_witness 13 = .ok (.invokevirtual 122, 3) := by decide +kernel
theorem dX7_witness_16 : decode cX7_witness 16 = .ok (.lreturn, 1) := by decide +kernel
theorem dX7_witness_17 : decode cX7_witness 17 = .ok (.iload_n 2, 1) := by decide +kernel
theorem dX7_witness_18 : decode cX7_witness 18 = .ok (.iconst 1, 1) := by decide +kernel
theorem dX7_witness_19 : decode cX7_witness 19 = .ok (.if_icmp .lt 16, 3) := by decide +kernel
theorem dX7_witness_22 : decode cX7_witness 22 = .ok (.iload_n 2, 1) := by decide +kernel
theorem dX7_witness_23 : decode cX7_witness 23 = .ok (.bipush 10, 2) := by decide +kernel
theorem dX7_witness_25 : decode cX7_witness 25 = .ok (.if_icmp .gt 10, 3) := by decide +kernel
theorem dX7_witness_28 : decode cX7_witness 28 = .ok (.iload_n 3, 1) := by decide +kernel
theorem dX7_witness_29 : decode cX7_witness 29 = .ok (.invokestatic 244, 3) := by decide +kernel
theorem dX7_witness_32 : decode cX7_witness 32 = .ok (.ifCond .ne 9, 3) := by decide +kernel
theorem dX7_witness_35 : decode cX7_witness 35 = .ok (.aload_n 0, 1) := by decide +kernel
theorem dX7_witness_36 : decode cX7_witness 36 = .ok (.iconst 2, 1) := by decide +kernel
theorem dX7_witness_37 : decode cX7_witness 37 = .ok (.invokevirtual 122, 3) := by decide +kernel
theorem dX7_witness_40 : decode cX7_witness 40 = .ok (.lreturn, 1) := by decide +kernel
theorem dX7_witness_41 : decode cX7_witness 41 = .ok (.aload_n 0, 1) := by decide +kernel
theorem dX7_witness_42 : decode cX7_witness 42 = .ok (.getfield 50, 3) := by decide +kernel
theorem dX7_witness_45 : decode cX7_witness 45 = .ok (.iload 4, 2) := by decide +kernel
theorem dX7_witness_47 : decode cX7_witness 47 = .ok (.invokevirtual 126, 3) := by decide +kernel
theorem dX7_witness_50 : decode cX7_witness 50 = .ok (.ifCond .ne 9, 3) := by decide +kernel
theorem dX7_witness_53 : decode cX7_witness 53 = .ok (.aload_n 0, 1) := by decide +kernel
theorem dX7_witness_54 : decode cX7_witness 54 = .ok (.iconst 1, 1) := by decide +kernel
theorem dX7_witness_55 : decode cX7_witness 55 = .ok (.invokevirtual 122, 3) := by decide +kernel
theorem dX7_witness_58 : decode cX7_witness 58 = .ok (.lreturn, 1) := by decide +kernel
theorem dX7_witness_59 : decode cX7_witness 59 = .ok (.aload_n 0, 1) := by decide +kernel
theorem dX7_witness_60 : decode cX7_witness 60 = .ok (.iconst 0, 1) := by decide +kernel
theorem dX7_witness_61 : decode cX7_witness 61 = .ok (.putfield 61, 3) := by decide +kernel
theorem dX7_witness_64 : decode cX7_witness 64 = .ok (.aload_n 0, 1) := by decide +kernel
theorem dX7_witness_65 : decode cX7_witness 65 = .ok (.getfield 43, 3) := by decide +kernel
theorem dX7_witness_68 : decode cX7_witness 68 = .ok (.aload_n 0, 1) := by decide +kernel
theorem dX7_witness_69 : decode cX7_witness 69 = .ok (.getfield 50, 3) := by decide +kernel
theorem dX7_witness_72 : decode cX7_witness 72 = .ok (.iload_n 1, 1) := by decide +kernel
theorem dX7_witness_73 : decode cX7_witness 73 = .ok (.iload_n 2, 1) := by decide +kernel
theorem dX7_witness_74 : decode cX7_witness 74 = .ok (.iload_n 3, 1) := by decide +kernel
theorem dX7_witness_75 : decode cX7_witness 75 = .ok (.invokevirtual 247, 3) := by decide +kernel
theorem dX7_witness_78 : decode cX7_witness 78 = .ok (.aload_n 0, 1) := by decide +kernel
theorem dX7_witness_79 : decode cX7_witness 79 = .ok (.getfield 43, 3) := by decide +kernel
theorem dX7_witness_82 : decode cX7_witness 82 = .ok (.getfield 253, 3) := by decide +kernel
theorem dX7_witness_85 : decode cX7_witness 85 = .ok (.iload 4, 2) := by decide +kernel
theorem dX7_witness_87 : decode cX7_witness 87 = .ok (.iaload, 1) := by decide +kernel
theorem dX7_witness_88 : decode cX7_witness 88 = .ok (.i2l, 1) := by decide +kernel
theorem dX7_witness_89 : decode cX7_witness 89 = .ok (.lreturn, 1) := by decide +kernel
theorem dX7_worst_0 : decode cX7_worst 0 = .ok (.aload_n 0, 1) := by decide +kernel
theorem dX7_worst_1 : decode cX7_worst 1 = .ok (.getfield 50, 3) := by decide +kernel
theorem dX7_worst_4 : decode cX7_worst 4 = .ok (.iload_n 1, 1) := by decide +kernel
theorem dX7_worst_5 : decode cX7_worst 5 = .ok (.invokevirtual 118, 3) := by decide +kernel
theorem dX7_worst_8 : decode cX7_worst 8 = .ok (.ifCond .ne 9, 3) := by decide +kernel
theorem dX7_worst_11 : decode cX7_worst 11 = .ok (.aload_n 0, 1) := by decide +kernel
theorem dX7_worst_12 : decode cX7_worst 12 = .ok (.iconst 1, 1) := by decide +kernel
theorem dX7_worst_13 : decode cX7_worst 13 = .ok (.invokevirtual 122, 3) := by decide +kernel
theorem dX7_worst_16 : decode cX7_worst 16 = .ok (.lreturn, 1) := by decide +kernel
theorem dX7_worst_17 : decode cX7_worst 17 = .ok (.aload_n 0, 1) := by decide +kernel
theorem dX7_worst_18 : decode cX7_worst 18 = .ok (.getfield 50, 3) := by decide +kernel
theorem dX7_worst_21 : decode cX7_worst 21 = .ok (.invokevirtual 106, 3) := by decide +kernel
theorem dX7_worst_24 : decode cX7_worst 24 = .ok (.ldc2_w 256, 3) := by decide +kernel
theorem dX7_worst_27 : decode cX7_worst 27 = .ok (.lcmp, 1) := by decide +kernel
theorem dX7_worst_28 : decode cX7_worst 28 = .ok (.ifCond .le 9, 3) := by decide +kernel
theorem dX7_worst_31 : decode cX7_worst 31 = .ok (.aload_n 0, 1) := by decide +kernel
theorem dX7_worst_32 : decode cX7_worst 32 = .ok (.iconst 3, 1) := by decide +kernel
theorem dX7_worst_33 : decode cX7_worst 33 = .ok (.invokevirtual 122, 3) := by decide +kernel
theorem dX7_worst_36 : decode cX7_worst 36 = .ok (.lreturn, 1) := by decide +kernel
theorem dX7_worst_37 : decode cX7_worst 37 = .ok (.aload_n 0, 1) := by decide +kernel
theorem dX7_worst_38 : decode cX7_worst 38 = .ok (.iconst 0, 1) := by decide +kernel
theorem dX7_worst_39 : decode cX7_worst 39 = .ok (.putfield 61, 3) := by decide +kernel
theorem dX7_worst_42 : decode cX7_worst 42 = .ok (.aload_n 0, 1) := by decide +kernel
theorem dX7_worst_43 : decode cX7_worst 43 = .ok (.getfield 43, 3) := by decide +kernel
theorem dX7_worst_46 : decode cX7_worst 46 = .ok (.aload_n 0, 1) := by decide +kernel
theorem dX7_worst_47 : decode cX7_worst 47 = .ok (.getfield 50, 3) := by decide +kernel
theorem dX7_worst_50 : decode cX7_worst 50 = .ok (.iload_n 1, 1) := by decide +kernel
theorem dX7_worst_51 : decode cX7_worst 51 = .ok (.invokevirtual 258, 3) := by decide +kernel
theorem dX7_worst_54 : decode cX7_worst 54 = .ok (.lreturn, 1) := by decide +kernel
theorem dX7_parts_0 : decode cX7_parts 0 = .ok (.aload_n 0, 1) := by decide +kernel
theorem dX7_parts_1 : decode cX7_parts 1 = .ok (.getfield 50, 3) := by decide +kernel
theorem dX7_parts_4 : decode cX7_parts 4 = .ok (.iload_n 1, 1) := by decide +kernel
theorem dX7_parts_5 : decode cX7_parts 5 = .ok (.invokevirtual 147, 3) := by decide +kernel
theorem dX7_parts_8 : decode cX7_parts 8 = .ok (.ifCond .ne 9, 3) := by decide +kernel
theorem dX7_parts_11 : decode cX7_parts 11 = .ok (.aload_n 0, 1) := by decide +kernel
theorem dX7_parts_12 : decode cX7_parts 12 = .ok (.iconst 1, 1) := by decide +kernel
theorem dX7_parts_13 : decode cX7_parts 13 = .ok (.invokevirtual 74, 3) := by decide +kernel
theorem dX7_parts_16 : decode cX7_parts 16 = .ok (.ireturn, 1) := by decide +kernel
theorem dX7_parts_17 : decode cX7_parts 17 = .ok (.aload_n 0, 1) := by decide +kernel
theorem dX7_parts_18 : decode cX7_parts 18 = .ok (.getfield 50, 3) := by decide +kernel
theorem dX7_parts_21 : decode cX7_parts 21 = .ok (.iload_n 1, 1) := by decide +kernel
theorem dX7_parts_22 : decode cX7_parts 22 = .ok (.invokevirtual 175, 3) := by decide +kernel
theorem dX7_parts_25 : decode cX7_parts 25 = .ok (.ifCond .ne 9, 3) := by decide +kernel
theorem dX7_parts_28 : decode cX7_parts 28 = .ok (.aload_n 0, 1) := by decide +kernel
theorem dX7_parts_29 : decode cX7_parts 29 = .ok (.iconst 5, 1) := by decide +kernel
theorem dX7_parts_30 : decode cX7_parts 30 = .ok (.invokevirtual 74, 3) := by decide +kernel
theorem dX7_parts_33 : decode cX7_parts 33 = .ok (.ireturn, 1) := by decide +kernel
theorem dX7_parts_34 : decode cX7_parts 34 = .ok (.iload_n 2, 1) := by decide +kernel
theorem dX7_parts_35 : decode cX7_parts 35 = .ok (.iconst 1, 1) := by decide +kernel
theorem dX7_parts_36 : decode cX7_parts 36 = .ok (.if_icmp .lt 17, 3) := by decide +kernel
theorem dX7_parts_39 : decode cX7_parts 39 = .ok (.iload_n 2, 1) := by decide +kernel
theorem dX7_parts_40 : decode cX7_parts 40 = .ok (.sipush 200, 3) := by decide +kernel
theorem dX7_parts_43 : decode cX7_parts 43 = .ok (.if_icmp .gt 10, 3) := by decide +kernel
theorem dX7_parts_46 : decode cX7_parts 46 = .ok (.iload_n 3, 1) := by decide +kernel
theorem dX7_parts_47 : decode cX7_parts 47 = .ok (.invokestatic 244, 3) := by decide +kernel
theorem dX7_parts_50 : decode cX7_parts 50 = .ok (.ifCond .ne 9, 3) := by decide +kernel
theorem dX7_parts_53 : decode cX7_parts 53 = .ok (.aload_n 0, 1) := by decide +kernel
theorem dX7_parts_54 : decode cX7_parts 54 = .ok (.iconst 2, 1) := by decide +kernel
theorem dX7_parts_55 : decode cX7_parts 55 = .ok (.invokevirtual 74, 3) := by decide +kernel
theorem dX7_parts_58 : decode cX7_parts 58 = .ok (.ireturn, 1) := by decide +kernel
theorem dX7_parts_59 : decode cX7_parts 59 = .ok (.aload_n 0, 1) := by decide +kernel
theorem dX7_parts_60 : decode cX7_parts 60 = .ok (.iconst 0, 1) := by decide +kernel
theorem dX7_parts_61 : decode cX7_parts 61 = .ok (.putfield 61, 3) := by decide +kernel
theorem dX7_parts_64 : decode cX7_parts 64 = .ok (.aload_n 0, 1) := by decide +kernel
theorem dX7_parts_65 : decode cX7_parts 65 = .ok (.getfield 43, 3) := by decide +kernel
theorem dX7_parts_68 : decode cX7_parts 68 = .ok (.aload_n 0, 1) := by decide +kernel
theorem dX7_parts_69 : decode cX7_parts 69 = .ok (.getfield 50, 3) := by decide +kernel
theorem dX7_parts_72 : decode cX7_parts 72 = .ok (.iload_n 1, 1) := by decide +kernel
theorem dX7_parts_73 : decode cX7_parts 73 = .ok (.iload_n 2, 1) := by decide +kernel
theorem dX7_parts_74 : decode cX7_parts 74 = .ok (.iload_n 3, 1) := by decide +kernel
theorem dX7_parts_75 : decode cX7_parts 75 = .ok (.invokevirtual 262, 3) := by decide +kernel
theorem dX7_parts_78 : decode cX7_parts 78 = .ok (.ireturn, 1) := by decide +kernel
theorem dX7_finer_0 : decode cX7_finer 0 = .ok (.aload_n 0, 1) := by decide +kernel
theorem dX7_finer_1 : decode cX7_finer 1 = .ok (.getfield 50, 3) := by decide +kernel
theorem dX7_finer_4 : decode cX7_finer 4 = .ok (.iload_n 1, 1) := by decide +kernel
theorem dX7_finer_5 : decode cX7_finer 5 = .ok (.invokevirtual 118, 3) := by decide +kernel
theorem dX7_finer_8 : decode cX7_finer 8 = .ok (.ifCond .ne 9, 3) := by decide +kernel
theorem dX7_finer_11 : decode cX7_finer 11 = .ok (.aload_n 0, 1) := by decide +kernel
theorem dX7_finer_12 : decode cX7_finer 12 = .ok (.iconst 1, 1) := by decide +kernel
theorem dX7_finer_13 : decode cX7_finer 13 = .ok (.invokevirtual 74, 3) := by decide +kernel
theorem dX7_finer_16 : decode cX7_finer 16 = .ok (.ireturn, 1) := by decide +kernel
theorem dX7_finer_17 : decode cX7_finer 17 = .ok (.iload_n 2, 1) := by decide +kernel
theorem dX7_finer_18 : decode cX7_finer 18 = .ok (.invokestatic 241, 3) := by decide +kernel
theorem dX7_finer_21 : decode cX7_finer 21 = .ok (.ifCond .ne 9, 3) := by decide +kernel
theorem dX7_finer_24 : decode cX7_finer 24 = .ok (.aload_n 0, 1) := by decide +kernel
theorem dX7_finer_25 : decode cX7_finer 25 = .ok (.iconst 2, 1) := by decide +kernel
theorem dX7_finer_26 : decode cX7_finer 26 = .ok (.invokevirtual 74, 3) := by decide +kernel
theorem dX7_finer_29 : decode cX7_finer 29 = .ok (.ireturn, 1) := by decide +kernel
theorem dX7_finer_30 : decode cX7_finer 30 = .ok (.aload_n 0, 1) := by decide +kernel
theorem dX7_finer_31 : decode cX7_finer 31 = .ok (.iconst 0, 1) := by decide +kernel
theorem dX7_finer_32 : decode cX7_finer 32 = .ok (.putfield 61, 3) := by decide +kernel
theorem dX7_finer_35 : decode cX7_finer 35 = .ok (.aload_n 0, 1) := by decide +kernel
theorem dX7_finer_36 : decode cX7_finer 36 = .ok (.getfield 36, 3) := by decide +kernel
theorem dX7_finer_39 : decode cX7_finer 39 = .ok (.getfield 266, 3) := by decide +kernel
theorem dX7_finer_42 : decode cX7_finer 42 = .ok (.astore_n 3, 1) := by decide +kernel
theorem dX7_finer_43 : decode cX7_finer 43 = .ok (.aload_n 0, 1) := by decide +kernel
theorem dX7_finer_44 : decode cX7_finer 44 = .ok (.getfield 54, 3) := by decide +kernel
theorem dX7_finer_47 : decode cX7_finer 47 = .ok (.aload_n 0, 1) := by decide +kernel
theorem dX7_finer_48 : decode cX7_finer 48 = .ok (.getfield 50, 3) := by decide +kernel
theorem dX7_finer_51 : decode cX7_finer 51 = .ok (.invokevirtual 269, 3) := by decide +kernel
theorem dX7_finer_54 : decode cX7_finer 54 = .ok (.iconst 0, 1) := by decide +kernel
theorem dX7_finer_55 : decode cX7_finer 55 = .ok (.istore 4, 2) := by decide +kernel
theorem dX7_finer_57 : decode cX7_finer 57 = .ok (.iload 4, 2) := by decide +kernel
theorem dX7_finer_59 : decode cX7_finer 59 = .ok (.bipush 96, 2) := by decide +kernel
theorem dX7_finer_61 : decode cX7_finer 61 = .ok (.if_icmp .gt 101, 3) := by decide +kernel
theorem dX7_finer_64 : decode cX7_finer 64 = .ok (.aload_n 3, 1) := by decide +kernel
theorem dX7_finer_65 : decode cX7_finer 65 = .ok (.aload_n 0, 1) := by decide +kernel
theorem dX7_finer_66 : decode cX7_finer 66 = .ok (.getfield 54, 3) := by decide +kernel
theorem dX7_finer_69 : decode cX7_finer 69 = .ok (.aload_n 0, 1) := by decide +kernel
theorem dX7_finer_70 : decode cX7_finer 70 = .ok (.getfield 54, 3) := by decide +kernel
theorem dX7_finer_73 : decode cX7_finer 73 = .ok (.getfield 273, 3) := by decide +kernel
theorem dX7_finer_76 : decode cX7_finer 76 = .ok (.iload_n 1, 1) := by decide +kernel
theorem dX7_finer_77 : decode cX7_finer 77 = .ok (.iaload, 1) := by decide +kernel
theorem dX7_finer_78 : decode cX7_finer 78 = .ok (.invokevirtual 276, 3) := by decide +kernel
theorem dX7_finer_81 : decode cX7_finer 81 = .ok (.aload_n 3, 1) := by decide +kernel
theorem dX7_finer_82 : decode cX7_finer 82 = .ok (.iload_n 1, 1) := by decide +kernel
theorem dX7_finer_83 : decode cX7_finer 83 = .ok (.invokevirtual 204, 3) := by decide +kernel
theorem dX7_finer_86 : decode cX7_finer 86 = .ok (.iload_n 2, 1) := by decide +kernel
theorem dX7_finer_87 : decode cX7_finer 87 = .ok (.i2l, 1) := by decide +kernel
theorem dX7_finer_88 : decode cX7_finer 88 = .ok (.lcmp, 1) := by decide +kernel
theorem dX7_finer_89 : decode cX7_finer 89 = .ok (.ifCond .gt 6, 3) := by decide +kernel
theorem dX7_finer_92 : decode cX7_finer 92 = .ok (.iload 4, 2) := by decide +kernel
theorem dX7_finer_94 : decode cX7_finer 94 = .ok (.ireturn, 1) := by decide +kernel
theorem dX7_finer_95 : decode cX7_finer 95 = .ok (.aload_n 3, 1) := by decide +kernel
theorem dX7_finer_96 : decode cX7_finer 96 = .ok (.aload_n 0, 1) := by decide +kernel
theorem dX7_finer_97 : decode cX7_finer 97 = .ok (.getfield 54, 3) := by decide +kernel
theorem dX7_finer_100 : decode cX7_finer 100 = .ok (.iload_n 1, 1) := by decide +kernel
theorem dX7_finer_101 : decode cX7_finer 101 = .ok (.invokevirtual 221, 3) := by decide +kernel
theorem dX7_finer_104 : decode cX7_finer 104 = .ok (.istore 5, 2) := by decide +kernel
theorem dX7_finer_106 : decode cX7_finer 106 = .ok (.aload_n 0, 1) := by decide +kernel
theorem dX7_finer_107 : decode cX7_finer 107 = .ok (.getfield 54, 3) := by decide +kernel
theorem dX7_finer_110 : decode cX7_finer 110 = .ok (.iload 5, 2) := by decide +kernel
theorem dX7_finer_112 : decode cX7_finer 112 = .ok (.invokevirtual 147, 3) := by decide +kernel
theorem dX7_finer_115 : decode cX7_finer 115 = .ok (.ifCond .eq 16, 3) := by decide +kernel
theorem dX7_finer_118 : decode cX7_finer 118 = .ok (.aload_n 0, 1) := by decide +kernel
theorem dX7_finer_119 : decode cX7_finer 119 = .ok (.getfield 54, 3) := by decide +kernel
theorem dX7_finer_122 : decode cX7_finer 122 = .ok (.getfield 137, 3) := by decide +kernel
theorem dX7_finer_125 : decode cX7_finer 125 = .ok (.iload 5, 2) := by decide +kernel
theorem dX7_finer_127 : decode cX7_finer 127 = .ok (.iaload, 1) := by decide +kernel
theorem dX7_finer_128 : decode cX7_finer 128 = .ok (.ifCond .ne 6, 3) := by decide +kernel
theorem dX7_finer_131 : decode cX7_finer 131 = .ok (.bipush (-2), 2) := by decide +kernel
theorem dX7_finer_133 : decode cX7_finer 133 = .ok (.ireturn, 1) := by decide +kernel
theorem dX7_finer_134 : decode cX7_finer 134 = .ok (.aload_n 0, 1) := by decide +kernel
theorem dX7_finer_135 : decode cX7_finer 135 = .ok (.getfield 54, 3) := by decide +kernel
theorem dX7_finer_138 : decode cX7_finer 138 = .ok (.getfield 137, 3) := by decide +kernel
theorem dX7_finer_141 : decode cX7_finer 141 = .ok (.iload 5, 2) := by decide +kernel
theorem dX7_finer_143 : decode cX7_finer 143 = .ok (.dup2, 1) := by decide +kernel
theorem dX7_finer_144 : decode cX7_finer 144 = .ok (.iaload, 1) := by decide +kernel
theorem dX7_finer_145 : decode cX7_finer 145 = .ok (.iconst 1, 1) := by decide +kernel
theorem dX7_finer_146 : decode cX7_finer 146 = .ok (.isub, 1) := by decide +kernel
theorem dX7_finer_147 : decode cX7_finer 147 = .ok (.iastore, 1) := by decide +kernel
theorem dX7_finer_148 : decode cX7_finer 148 = .ok (.aload_n 0, 1) := by decide +kernel
theorem dX7_finer_149 : decode cX7_finer 149 = .ok (.getfield 54, 3) := by decide +kernel
theorem dX7_finer_152 : decode cX7_finer 152 = .ok (.invokevirtual 279, 3) := by decide +kernel
theorem dX7_finer_155 : decode cX7_finer 155 = .ok (.pop, 1) := by decide +kernel
theorem dX7_finer_156 : decode cX7_finer 156 = .ok (.iinc 4 1, 3) := by decide +kernel
theorem dX7_finer_159 : decode cX7_finer 159 = .ok (.goto (-102), 3) := by decide +kernel
theorem dX7_finer_162 : decode cX7_finer 162 = .ok (.bipush (-2), 2) := by decide +kernel
theorem dX7_finer_164 : decode cX7_finer 164 = .ok (.ireturn, 1) := by decide +kernel
theorem dX7_grid_0 : decode cX7_grid 0 = .ok (.aload_n 0, 1) := by decide +kernel
theorem dX7_grid_1 : decode cX7_grid 1 = .ok (.getfield 50, 3) := by decide +kernel
theorem dX7_grid_4 : decode cX7_grid 4 = .ok (.iload_n 1, 1) := by decide +kernel
theorem dX7_grid_5 : decode cX7_grid 5 = .ok (.invokevirtual 147, 3) := by decide +kernel
theorem dX7_grid_8 : decode cX7_grid 8 = .ok (.ifCond .ne 9, 3) := by decide +kernel
theorem dX7_grid_11 : decode cX7_grid 11 = .ok (.aload_n 0, 1) := by decide +kernel
theorem dX7_grid_12 : decode cX7_grid 12 = .ok (.iconst 1, 1) := by decide +kernel
theorem dX7_grid_13 : decode cX7_grid 13 = .ok (.invokevirtual 74, 3) := by decide +kernel
theorem dX7_grid_16 : decode cX7_grid 16 = .ok (.ireturn, 1) := by decide +kernel
theorem dX7_grid_17 : decode cX7_grid 17 = .ok (.iload_n 2, 1) := by decide +kernel
theorem dX7_grid_18 : decode cX7_grid 18 = .ok (.ifCond .lt 9, 3) := by decide +kernel
theorem dX7_grid_21 : decode cX7_grid 21 = .ok (.iload_n 2, 1) := by decide +kernel
theorem dX7_grid_22 : decode cX7_grid 22 = .ok (.bipush 8, 2) := by decide +kernel
theorem dX7_grid_24 : decode cX7_grid 24 = .ok (.if_icmp .le 9, 3) := by decide +kernel
theorem dX7_grid_27 : decode cX7_grid 27 = .ok (.aload_n 0, 1) := by decide +kernel
theorem dX7_grid_28 : decode cX7_grid 28 = .ok (.iconst 2, 1) := by decide +kernel
theorem dX7_grid_29 : decode cX7_grid 29 = .ok (.invokevirtual 74, 3) := by decide +kernel
theorem dX7_grid_32 : decode cX7_grid 32 = .ok (.ireturn, 1) := by decide +kernel
theorem dX7_grid_33 : decode cX7_grid 33 = .ok (.aload_n 0, 1) := by decide +kernel
theorem dX7_grid_34 : decode cX7_grid 34 = .ok (.getfield 50, 3) := by decide +kernel
theorem dX7_grid_37 : decode cX7_grid 37 = .ok (.getfield 137, 3) := by decide +kernel
theorem dX7_grid_40 : decode cX7_grid 40 = .ok (.iload_n 1, 1) := by decide +kernel
theorem dX7_grid_41 : decode cX7_grid 41 = .ok (.iaload, 1) := by decide +kernel
theorem dX7_grid_42 : decode cX7_grid 42 = .ok (.istore_n 3, 1) := by decide +kernel
theorem dX7_grid_43 : decode cX7_grid 43 = .ok (.aload_n 0, 1) := by decide +kernel
theorem dX7_grid_44 : decode cX7_grid 44 = .ok (.getfield 54, 3) := by decide +kernel
theorem dX7_grid_47 : decode cX7_grid 47 = .ok (.aload_n 0, 1) := by decide +kernel
theorem dX7_grid_48 : decode cX7_grid 48 = .ok (.getfield 50, 3) := by decide +kernel
theorem dX7_grid_51 : decode cX7_grid 51 = .ok (.invokevirtual 269, 3) := by decide +kernel
theorem dX7_grid_54 : decode cX7_grid 54 = .ok (.aload_n 0, 1) := by decide +kernel
theorem dX7_grid_55 : decode cX7_grid 55 = .ok (.getfield 54, 3) := by decide +kernel
theorem dX7_grid_58 : decode cX7_grid 58 = .ok (.getfield 137, 3) := by decide +kernel
theorem dX7_grid_61 : decode cX7_grid 61 = .ok (.iload_n 1, 1) := by decide +kernel
theorem dX7_grid_62 : decode cX7_grid 62 = .ok (.iload_n 2, 1) := by decide +kernel
theorem dX7_grid_63 : decode cX7_grid 63 = .ok (.iastore, 1) := by decide +kernel
theorem dX7_grid_64 : decode cX7_grid 64 = .ok (.aload_n 0, 1) := by decide +kernel
theorem dX7_grid_65 : decode cX7_grid 65 = .ok (.getfield 54, 3) := by decide +kernel
theorem dX7_grid_68 : decode cX7_grid 68 = .ok (.invokevirtual 279, 3) := by decide +kernel
theorem dX7_grid_71 : decode cX7_grid 71 = .ok (.ifCond .ne 9, 3) := by decide +kernel
theorem dX7_grid_74 : decode cX7_grid 74 = .ok (.aload_n 0, 1) := by decide +kernel
theorem dX7_grid_75 : decode cX7_grid 75 = .ok (.iconst 5, 1) := by decide +kernel
theorem dX7_grid_76 : decode cX7_grid 76 = .ok (.invokevirtual 74, 3) := by decide +kernel
theorem dX7_grid_79 : decode cX7_grid 79 = .ok (.ireturn, 1) := by decide +kernel
theorem dX7_grid_80 : decode cX7_grid 80 = .ok (.aload_n 0, 1) := by decide +kernel
theorem dX7_grid_81 : decode cX7_grid 81 = .ok (.invokevirtual 84, 3) := by decide +kernel
theorem dX7_grid_84 : decode cX7_grid 84 = .ok (.aload_n 0, 1) := by decide +kernel
theorem dX7_grid_85 : decode cX7_grid 85 = .ok (.iconst 0, 1) := by decide +kernel
theorem dX7_grid_86 : decode cX7_grid 86 = .ok (.putfield 61, 3) := by decide +kernel
theorem dX7_grid_89 : decode cX7_grid 89 = .ok (.iload_n 3, 1) := by decide +kernel
theorem dX7_grid_90 : decode cX7_grid 90 = .ok (.ireturn, 1) := by decide +kernel
theorem dX7_range_0 : decode cX7_range 0 = .ok (.aload_n 0, 1) := by decide +kernel
theorem dX7_range_1 : decode cX7_range 1 = .ok (.getfield 50, 3) := by decide +kernel
theorem dX7_range_4 : decode cX7_range 4 = .ok (.iload_n 1, 1) := by decide +kernel
theorem dX7_range_5 : decode cX7_range 5 = .ok (.invokevirtual 126, 3) := by decide +kernel
theorem dX7_range_8 : decode cX7_range 8 = .ok (.ifCond .ne 9, 3) := by decide +kernel
theorem dX7_range_11 : decode cX7_range 11 = .ok (.aload_n 0, 1) := by decide +kernel
theorem dX7_range_12 : decode cX7_range 12 = .ok (.iconst 1, 1) := by decide +kernel
theorem dX7_range_13 : decode cX7_range 13 = .ok (.invokevirtual 156, 3) := by decide +kernel
theorem dX7_range_16 : decode cX7_range 16 = .ok (.ireturn, 1) := by decide +kernel
theorem dX7_range_17 : decode cX7_range 17 = .ok (.iload_n 2, 1) := by decide +kernel
theorem dX7_range_18 : decode cX7_range 18 = .ok (.invokestatic 282, 3) := by decide +kernel
theorem dX7_range_21 : decode cX7_range 21 = .ok (.ifCond .eq 11, 3) := by decide +kernel
theorem dX7_range_24 : decode cX7_range 24 = .ok (.iload_n 2, 1) := by decide +kernel
theorem dX7_range_25 : decode cX7_range 25 = .ok (.iload_n 3, 1) := by decide +kernel
theorem dX7_range_26 : decode cX7_range 26 = .ok (.invokestatic 285, 3) := by decide +kernel
theorem dX7_range_29 : decode cX7_range 29 = .ok (.ifCond .ne 9, 3) := by decide +kernel
theorem dX7_range_32 : decode cX7_range 32 = .ok (.aload_n 0, 1) := by decide +kernel
theorem dX7_range_33 : decode cX7_range 33 = .ok (.iconst 2, 1) := by decide +kernel
theorem dX7_range_34 : decode cX7_range 34 = .ok (.invokevirtual 156, 3) := by decide +kernel
theorem dX7_range_37 : decode cX7_range 37 = .ok (.ireturn, 1) := by decide +kernel
theorem dX7_range_38 : decode cX7_range 38 = .ok (.aload_n 0, 1) := by decide +kernel
theorem dX7_range_39 : decode cX7_range 39 = .ok (.getfield 54, 3) := by decide +kernel
theorem dX7_range_42 : decode cX7_range 42 = .ok (.aload_n 0, 1) := by decide +kernel
theorem dX7_range_43 : decode cX7_range 43 = .ok (.getfield 50, 3) := by decide +kernel
theorem dX7_range_46 : decode cX7_range 46 = .ok (.invokevirtual 269, 3) := by decide +kernel
theorem dX7_range_49 : decode cX7_range 49 = .ok (.aload_n 0, 1) := by decide +kernel
theorem dX7_range_50 : decode cX7_range 50 = .ok (.getfield 54, 3) := by decide +kernel
theorem dX7_range_53 : decode cX7_range 53 = .ok (.getfield 93, 3) := by decide +kernel
theorem dX7_range_56 : decode cX7_range 56 = .ok (.iload_n 1, 1) := by decide +kernel
theorem dX7_range_57 : decode cX7_range 57 = .ok (.iload_n 2, 1) := by decide +kernel
theorem dX7_range_58 : decode cX7_range 58 = .ok (.iastore, 1) := by decide +kernel
theorem dX7_range_59 : decode cX7_range 59 = .ok (.aload_n 0, 1) := by decide +kernel
theorem dX7_range_60 : decode cX7_range 60 = .ok (.getfield 54, 3) := by decide +kernel
theorem dX7_range_63 : decode cX7_range 63 = .ok (.getfield 129, 3) := by decide +kernel
theorem dX7_range_66 : decode cX7_range 66 = .ok (.iload_n 1, 1) := by decide +kernel
theorem dX7_range_67 : decode cX7_range 67 = .ok (.iload_n 3, 1) := by decide +kernel
theorem dX7_range_68 : decode cX7_range 68 = .ok (.iastore, 1) := by decide +kernel
theorem dX7_range_69 : decode cX7_range 69 = .ok (.aload_n 0, 1) := by decide +kernel
theorem dX7_range_70 : decode cX7_range 70 = .ok (.getfield 54, 3) := by decide +kernel
theorem dX7_range_73 : decode cX7_range 73 = .ok (.invokevirtual 279, 3) := by decide +kernel
theorem dX7_range_76 : decode cX7_range 76 = .ok (.ifCond .ne 9, 3) := by decide +kernel
theorem dX7_range_79 : decode cX7_range 79 = .ok (.aload_n 0, 1) := by decide +kernel
theorem dX7_range_80 : decode cX7_range 80 = .ok (.iconst 5, 1) := by decide +kernel
theorem dX7_range_81 : decode cX7_range 81 = .ok (.invokevirtual 156, 3) := by decide +kernel
theorem dX7_range_84 : decode cX7_range 84 = .ok (.ireturn, 1) := by decide +kernel
theorem dX7_range_85 : decode cX7_range 85 = .ok (.aload_n 0, 1) := by decide +kernel
theorem dX7_range_86 : decode cX7_range 86 = .ok (.invokevirtual 84, 3) := by decide +kernel
theorem dX7_range_89 : decode cX7_range 89 = .ok (.aload_n 0, 1) := by decide +kernel
theorem dX7_range_90 : decode cX7_range 90 = .ok (.getfield 15, 3) := by decide +kernel
theorem dX7_range_93 : decode cX7_range 93 = .ok (.iload_n 1, 1) := by decide +kernel
theorem dX7_range_94 : decode cX7_range 94 = .ok (.iload_n 2, 1) := by decide +kernel
theorem dX7_range_95 : decode cX7_range 95 = .ok (.iastore, 1) := by decide +kernel
theorem dX7_range_96 : decode cX7_range 96 = .ok (.aload_n 0, 1) := by decide +kernel
theorem dX7_range_97 : decode cX7_range 97 = .ok (.iconst 0, 1) := by decide +kernel
theorem dX7_range_98 : decode cX7_range 98 = .ok (.putfield 61, 3) := by decide +kernel
theorem dX7_range_101 : decode cX7_range 101 = .ok (.iconst 1, 1) := by decide +kernel
theorem dX7_range_102 : decode cX7_range 102 = .ok (.ireturn, 1) := by decide +kernel
theorem dX7_doubtful_0 : decode cX7_doubtful 0 = .ok (.iconst 0, 1) := by decide +kernel
theorem dX7_doubtful_1 : decode cX7_doubtful 1 = .ok (.istore_n 2, 1) := by decide +kernel
theorem dX7_doubtful_2 : decode cX7_doubtful 2 = .ok (.iconst 0, 1) := by decide +kernel
theorem dX7_doubtful_3 : decode cX7_doubtful 3 = .ok (.istore_n 3, 1) := by decide +kernel
theorem dX7_doubtful_4 : decode cX7_doubtful 4 = .ok (.iload_n 3, 1) := by decide +kernel
theorem dX7_doubtful_5 : decode cX7_doubtful 5 = .ok (.aload_n 0, 1) := by decide +kernel
theorem dX7_doubtful_6 : decode cX7_doubtful 6 = .ok (.getfield 50, 3) := by decide +kernel
theorem dX7_doubtful_9 : decode cX7_doubtful 9 = .ok (.getfield 96, 3) := by decide +kernel
theorem dX7_doubtful_12 : decode cX7_doubtful 12 = .ok (.if_icmp .ge 45, 3) := by decide +kernel
theorem dX7_doubtful_15 : decode cX7_doubtful 15 = .ok (.aload_n 0, 1) := by decide +kernel
theorem dX7_doubtful_16 : decode cX7_doubtful 16 = .ok (.getfield 50, 3) := by decide +kernel
theorem dX7_doubtful_19 : decode cX7_doubtful 19 = .ok (.iload_n 3, 1) := by decide +kernel
theorem dX7_doubtful_20 : decode cX7_doubtful 20 = .ok (.invokevirtual 175, 3) := by decide +kernel
theorem dX7_doubtful_23 : decode cX7_doubtful 23 = .ok (.ifCond .eq 28, 3) := by decide +kernel
theorem dX7_doubtful_26 : decode cX7_doubtful 26 = .ok (.aload_n 0, 1) := by decide +kernel
theorem dX7_doubtful_27 : decode cX7_doubtful 27 = .ok (.getfield 29, 3) := by decide +kernel
theorem dX7_doubtful_30 : decode cX7_doubtful 30 = .ok (.getfield 224, 3) := by decide +kernel
theorem dX7_doubtful_33 : decode cX7_doubtful 33 = .ok (.iload_n 3, 1) := by decide +kernel
theorem dX7_doubtful_34 : decode cX7_doubtful 34 = .ok (.iaload, 1) := by decide +kernel
theorem dX7_doubtful_35 : decode cX7_doubtful 35 = .ok (.bipush 48, 2) := by decide +kernel
theorem dX7_doubtful_37 : decode cX7_doubtful 37 = .ok (.iand, 1) := by decide +kernel
theorem dX7_doubtful_38 : decode cX7_doubtful 38 = .ok (.ifCond .eq 13, 3) := by decide +kernel
theorem dX7_doubtful_41 : decode cX7_doubtful 41 = .ok (.iload_n 2, 1) := by decide +kernel
theorem dX7_doubtful_42 : decode cX7_doubtful 42 = .ok (.iload_n 1, 1) := by decide +kernel
theorem dX7_doubtful_43 : decode cX7_doubtful 43 = .ok (.if_icmp .ne 5, 3) := by decide +kernel
theorem dX7_doubtful_46 : decode cX7_doubtful 46 = .ok (.iload_n 3, 1) := by decide +kernel
theorem dX7_doubtful_47 : decode cX7_doubtful 47 = .ok (.ireturn, 1) := by decide +kernel
theorem dX7_doubtful_48 : decode cX7_doubtful 48 = .ok (.iinc 2 1, 3) := by decide +kernel
theorem dX7_doubtful_51 : decode cX7_doubtful 51 = .ok (.iinc 3 1, 3) := by decide +kernel
theorem dX7_doubtful_54 : decode cX7_doubtful 54 = .ok (.goto (-50), 3) := by decide +kernel
theorem dX7_doubtful_57 : decode cX7_doubtful 57 = .ok (.new 289, 3) := by decide +kernel
theorem dX7_doubtful_60 : decode cX7_doubtful 60 = .ok (.dup, 1) := by decide +kernel
theorem dX7_doubtful_61 : decode cX7_doubtful 61 = .ok (.ldc_w 291, 3) := by decide +kernel
theorem dX7_doubtful_64 : decode cX7_doubtful 64 = .ok (.invokespecial 293, 3) := by decide +kernel
theorem dX7_doubtful_67 : decode cX7_doubtful 67 = .ok (.athrow, 1) := by decide +kernel
theorem dX7_size_0 : decode cX7_size 0 = .ok (.aload_n 0, 1) := by decide +kernel
theorem dX7_size_1 : decode cX7_size 1 = .ok (.getfield 57, 3) := by decide +kernel
theorem dX7_size_4 : decode cX7_size 4 = .ok (.ireturn, 1) := by decide +kernel
theorem dX7_trouble_0 : decode cX7_trouble 0 = .ok (.aload_n 0, 1) := by decide +kernel
theorem dX7_trouble_1 : decode cX7_trouble 1 = .ok (.getfield 61, 3) := by decide +kernel
theorem dX7_trouble_4 : decode cX7_trouble 4 = .ok (.ireturn, 1) := by decide +kernel
theorem dX7_none_0 : decode cX7_none 0 = .ok (.aload_n 0, 1) := by decide +kernel
theorem dX7_none_1 : decode cX7_none 1 = .ok (.iload_n 1, 1) := by decide +kernel
theorem dX7_none_2 : decode cX7_none 2 = .ok (.putfield 61, 3) := by decide +kernel
theorem dX7_none_5 : decode cX7_none 5 = .ok (.iconst (-1), 1) := by decide +kernel
theorem dX7_none_6 : decode cX7_none 6 = .ok (.ireturn, 1) := by decide +kernel
theorem dX7_nothing_0 : decode cX7_nothing 0 = .ok (.aload_n 0, 1) := by decide +kernel
theorem dX7_nothing_1 : decode cX7_nothing 1 = .ok (.iload_n 1, 1) := by decide +kernel
theorem dX7_nothing_2 : decode cX7_nothing 2 = .ok (.putfield 61, 3) := by decide +kernel
theorem dX7_nothing_5 : decode cX7_nothing 5 = .ok (.ldc2_w 296, 3) := by decide +kernel
theorem dX7_nothing_8 : decode cX7_nothing 8 = .ok (.lreturn, 1) := by decide +kernel
theorem dX7_refused_0 : decode cX7_refused 0 = .ok (.aload_n 0, 1) := by decide +kernel
theorem dX7_refused_1 : decode cX7_refused 1 = .ok (.iload_n 1, 1) := by decide +kernel
theorem dX7_refused_2 : decode cX7_refused 2 = .ok (.putfield 61, 3) := by decide +kernel
theorem dX7_refused_5 : decode cX7_refused 5 = .ok (.iconst 0, 1) := by decide +kernel
theorem dX7_refused_6 : decode cX7_refused 6 = .ok (.ireturn, 1) := by decide +kernel
theorem dX7_putBytes_0 : decode cX7_putBytes 0 = .ok (.bipush 24, 2) := by decide +kernel
theorem dX7_putBytes_2 : decode cX7_putBytes 2 = .ok (.istore_n 2, 1) := by decide +kernel
theorem dX7_putBytes_3 : decode cX7_putBytes 3 = .ok (.iload_n 2, 1) := by decide +kernel
theorem dX7_putBytes_4 : decode cX7_putBytes 4 = .ok (.ifCond .lt 42, 3) := by decide +kernel
theorem dX7_putBytes_7 : decode cX7_putBytes 7 = .ok (.aload_n 0, 1) := by decide +kernel
theorem dX7_putBytes_8 : decode cX7_putBytes 8 = .ok (.getfield 57, 3) := by decide +kernel
theorem dX7_putBytes_11 : decode cX7_putBytes 11 = .ok (.sipush 500, 3) := by decide +kernel
theorem dX7_putBytes_14 : decode cX7_putBytes 14 = .ok (.if_icmp .ge 32, 3) := by decide +kernel
theorem dX7_putBytes_17 : decode cX7_putBytes 17 = .ok (.aload_n 0, 1) := by decide +kernel
theorem dX7_putBytes_18 : decode cX7_putBytes 18 = .ok (.getfield 11, 3) := by decide +kernel
theorem dX7_putBytes_21 : decode cX7_putBytes 21 = .ok (.aload_n 0, 1) := by decide +kernel
theorem dX7_putBytes_22 : decode cX7_putBytes 22 = .ok (.getfield 57, 3) := by decide +kernel
theorem dX7_putBytes_25 : decode cX7_putBytes 25 = .ok (.iload_n 1, 1) := by decide +kernel
theorem dX7_putBytes_26 : decode cX7_putBytes 26 = .ok (.iload_n 2, 1) := by decide +kernel
theorem dX7_putBytes_27 : decode cX7_putBytes 27 = .ok (.ishr, 1) := by decide +kernel
theorem dX7_putBytes_28 : decode cX7_putBytes 28 = .ok (.i2b, 1) := by decide +kernel
theorem dX7_putBytes_29 : decode cX7_putBytes 29 = .ok (.bastore, 1) := by decide +kernel
theorem dX7_putBytes_30 : decode cX7_putBytes 30 = .ok (.aload_n 0, 1) := by decide +kernel
theorem dX7_putBytes_31 : decode cX7_putBytes 31 = .ok (.dup, 1) := by decide +kernel
theorem dX7_putBytes_32 : decode cX7_putBytes 32 = .ok (.getfield 57, 3) := by decide +kernel
theorem dX7_putBytes_35 : decode cX7_putBytes 35 = .ok (.iconst 1, 1) := by decide +kernel
theorem dX7_putBytes_36 : decode cX7_putBytes 36 = .ok (.iadd, 1) := by decide +kernel
theorem dX7_putBytes_37 : decode cX7_putBytes 37 = .ok (.putfield 57, 3) := by decide +kernel
theorem dX7_putBytes_40 : decode cX7_putBytes 40 = .ok (.iinc 2 (-8), 3) := by decide +kernel
theorem dX7_putBytes_43 : decode cX7_putBytes 43 = .ok (.goto (-40), 3) := by decide +kernel
theorem dX7_putBytes_46 : decode cX7_putBytes 46 = .ok (.return_, 1) := by decide +kernel
theorem dX7_takeSpare_0 : decode cX7_takeSpare 0 = .ok (.aload_n 0, 1) := by decide +kernel
theorem dX7_takeSpare_1 : decode cX7_takeSpare 1 = .ok (.getfield 50, 3) := by decide +kernel
theorem dX7_takeSpare_4 : decode cX7_takeSpare 4 = .ok (.astore_n 1, 1) := by decide +kernel
theorem dX7_takeSpare_5 : decode cX7_takeSpare 5 = .ok (.aload_n 0, 1) := by decide +kernel
theorem dX7_takeSpare_6 : decode cX7_takeSpare 6 = .ok (.aload_n 0, 1) := by decide +kernel
theorem dX7_takeSpare_7 : decode cX7_takeSpare 7 = .ok (.getfield 54, 3) := by decide +kernel
theorem dX7_takeSpare_10 : decode cX7_takeSpare 10 = .ok (.putfield 50, 3) := by decide +kernel
theorem dX7_takeSpare_13 : decode cX7_takeSpare 13 = .ok (.aload_n 0, 1) := by decide +kernel
theorem dX7_takeSpare_14 : decode cX7_takeSpare 14 = .ok (.aload_n 1, 1) := by decide +kernel
theorem dX7_takeSpare_15 : decode cX7_takeSpare 15 = .ok (.putfield 54, 3) := by decide +kernel
theorem dX7_takeSpare_18 : decode cX7_takeSpare 18 = .ok (.aload_n 0, 1) := by decide +kernel
theorem dX7_takeSpare_19 : decode cX7_takeSpare 19 = .ok (.getfield 29, 3) := by decide +kernel
theorem dX7_takeSpare_22 : decode cX7_takeSpare 22 = .ok (.aload_n 0, 1) := by decide +kernel
theorem dX7_takeSpare_23 : decode cX7_takeSpare 23 = .ok (.getfield 50, 3) := by decide +kernel
theorem dX7_takeSpare_26 : decode cX7_takeSpare 26 = .ok (.iconst (-1), 1) := by decide +kernel
theorem dX7_takeSpare_27 : decode cX7_takeSpare 27 = .ok (.invokevirtual 276, 3) := by decide +kernel
theorem dX7_takeSpare_30 : decode cX7_takeSpare 30 = .ok (.return_, 1) := by decide +kernel
theorem dX7_isSeed_0 : decode cX7_isSeed 0 = .ok (.iload_n 0, 1) := by decide +kernel
theorem dX7_isSeed_1 : decode cX7_isSeed 1 = .ok (.ifCond .lt 14, 3) := by decide +kernel
theorem dX7_isSeed_4 : decode cX7_isSeed 4 = .ok (.iload_n 0, 1) := by decide +kernel
theorem dX7_isSeed_5 : decode cX7_isSeed 5 = .ok (.ldc_w 298, 3) := by decide +kernel
theorem dX7_isSeed_8 : decode cX7_isSeed 8 = .ok (.if_icmp .ge 7, 3) := by decide +kernel
theorem dX7_isSeed_11 : decode cX7_isSeed 11 = .ok (.iconst 1, 1) := by decide +kernel
theorem dX7_isSeed_12 : decode cX7_isSeed 12 = .ok (.goto 4, 3) := by decide +kernel
theorem dX7_isSeed_15 : decode cX7_isSeed 15 = .ok (.iconst 0, 1) := by decide +kernel
theorem dX7_isSeed_16 : decode cX7_isSeed 16 = .ok (.ireturn, 1) := by decide +kernel
theorem dX7_isLimit_0 : decode cX7_isLimit 0 = .ok (.iload_n 0, 1) := by decide +kernel
theorem dX7_isLimit_1 : decode cX7_isLimit 1 = .ok (.ifCond .lt 14, 3) := by decide +kernel
theorem dX7_isLimit_4 : decode cX7_isLimit 4 = .ok (.iload_n 0, 1) := by decide +kernel
theorem dX7_isLimit_5 : decode cX7_isLimit 5 = .ok (.ldc_w 299, 3) := by decide +kernel
theorem dX7_isLimit_8 : decode cX7_isLimit 8 = .ok (.if_icmp .gt 7, 3) := by decide +kernel
theorem dX7_isLimit_11 : decode cX7_isLimit 11 = .ok (.iconst 1, 1) := by decide +kernel
theorem dX7_isLimit_12 : decode cX7_isLimit 12 = .ok (.goto 4, 3) := by decide +kernel
theorem dX7_isLimit_15 : decode cX7_isLimit 15 = .ok (.iconst 0, 1) := by decide +kernel
theorem dX7_isLimit_16 : decode cX7_isLimit 16 = .ok (.ireturn, 1) := by decide +kernel
theorem dX7_isNumber_0 : decode cX7_isNumber 0 = .ok (.iload_n 0, 1) := by decide +kernel
theorem dX7_isNumber_1 : decode cX7_isNumber 1 = .ok (.sipush (-1000), 3) := by decide +kernel
theorem dX7_isNumber_4 : decode cX7_isNumber 4 = .ok (.if_icmp .lt 14, 3) := by decide +kernel
theorem dX7_isNumber_7 : decode cX7_isNumber 7 = .ok (.iload_n 0, 1) := by decide +kernel
theorem dX7_isNumber_8 : decode cX7_isNumber 8 = .ok (.sipush 1000, 3) := by decide +kernel
theorem dX7_isNumber_11 : decode cX7_isNumber 11 = .ok (.if_icmp .gt 7, 3) := by decide +kernel
theorem dX7_isNumber_14 : decode cX7_isNumber 14 = .ok (.iconst 1, 1) := by decide +kernel
theorem dX7_isNumber_15 : decode cX7_isNumber 15 = .ok (.goto 4, 3) := by decide +kernel
theorem dX7_isNumber_18 : decode cX7_isNumber 18 = .ok (.iconst 0, 1) := by decide +kernel
theorem dX7_isNumber_19 : decode cX7_isNumber 19 = .ok (.ireturn, 1) := by decide +kernel
theorem dX7_isEndOf_0 : decode cX7_isEndOf 0 = .ok (.iload_n 1, 1) := by decide +kernel
theorem dX7_isEndOf_1 : decode cX7_isEndOf 1 = .ok (.invokestatic 282, 3) := by decide +kernel
theorem dX7_isEndOf_4 : decode cX7_isEndOf 4 = .ok (.ifCond .eq 20, 3) := by decide +kernel
theorem dX7_isEndOf_7 : decode cX7_isEndOf 7 = .ok (.iload_n 1, 1) := by decide +kernel
theorem dX7_isEndOf_8 : decode cX7_isEndOf 8 = .ok (.iload_n 0, 1) := by decide +kernel
theorem dX7_isEndOf_9 : decode cX7_isEndOf 9 = .ok (.if_icmp .lt 15, 3) := by decide +kernel
theorem dX7_isEndOf_12 : decode cX7_isEndOf 12 = .ok (.iload_n 1, 1) := by decide +kernel
theorem dX7_isEndOf_13 : decode cX7_isEndOf 13 = .ok (.iload_n 0, 1) := by decide +kernel
theorem dX7_isEndOf_14 : decode cX7_isEndOf 14 = .ok (.isub, 1) := by decide +kernel
theorem dX7_isEndOf_15 : decode cX7_isEndOf 15 = .ok (.iconst 2, 1) := by decide +kernel
theorem dX7_isEndOf_16 : decode cX7_isEndOf 16 = .ok (.irem, 1) := by decide +kernel
theorem dX7_isEndOf_17 : decode cX7_isEndOf 17 = .ok (.ifCond .ne 7, 3) := by decide +kernel
theorem dX7_isEndOf_20 : decode cX7_isEndOf 20 = .ok (.iconst 1, 1) := by decide +kernel
theorem dX7_isEndOf_21 : decode cX7_isEndOf 21 = .ok (.goto 4, 3) := by decide +kernel
theorem dX7_isEndOf_24 : decode cX7_isEndOf 24 = .ok (.iconst 0, 1) := by decide +kernel
theorem dX7_isEndOf_25 : decode cX7_isEndOf 25 = .ok (.ireturn, 1) := by decide +kernel
theorem dX8_init_0 : decode cX8_init 0 = .ok (.aload_n 0, 1) := by decide +kernel
theorem dX8_init_1 : decode cX8_init 1 = .ok (.invokespecial 5, 3) := by decide +kernel
theorem dX8_init_4 : decode cX8_init 4 = .ok (.aload_n 0, 1) := by decide +kernel
theorem dX8_init_5 : decode cX8_init 5 = .ok (.iconst (-1), 1) := by decide +kernel
theorem dX8_init_6 : decode cX8_init 6 = .ok (.putfield 11, 3) := by decide +kernel
theorem dX8_init_9 : decode cX8_init 9 = .ok (.aload_n 0, 1) := by decide +kernel
theorem dX8_init_10 : decode cX8_init 10 = .ok (.sipush 500, 3) := by decide +kernel
theorem dX8_init_13 : decode cX8_init 13 = .ok (.newarray .int, 2) := by decide +kernel
theorem dX8_init_15 : decode cX8_init 15 = .ok (.putfield 15, 3) := by decide +kernel
theorem dX8_init_18 : decode cX8_init 18 = .ok (.aload_n 0, 1) := by decide +kernel
theorem dX8_init_19 : decode cX8_init 19 = .ok (.bipush 30, 2) := by decide +kernel
theorem dX8_init_21 : decode cX8_init 21 = .ok (.newarray .int, 2) := by decide +kernel
theorem dX8_init_23 : decode cX8_init 23 = .ok (.putfield 19, 3) := by decide +kernel
theorem dX8_init_26 : decode cX8_init 26 = .ok (.aload_n 0, 1) := by decide +kernel
theorem dX8_init_27 : decode cX8_init 27 = .ok (.bipush 30, 2) := by decide +kernel
theorem dX8_init_29 : decode cX8_init 29 = .ok (.newarray .int, 2) := by decide +kernel
theorem dX8_init_31 : decode cX8_init 31 = .ok (.putfield 22, 3) := by decide +kernel
theorem dX8_init_34 : decode cX8_init 34 = .ok (.aload_n 0, 1) := by decide +kernel
theorem dX8_init_35 : decode cX8_init 35 = .ok (.bipush 30, 2) := by decide +kernel
theorem dX8_init_37 : decode cX8_init 37 = .ok (.newarray .int, 2) := by decide +kernel
theorem dX8_init_39 : decode cX8_init 39 = .ok (.putfield 25, 3) := by decide +kernel
theorem dX8_init_42 : decode cX8_init 42 = .ok (.aload_n 0, 1) := by decide +kernel
theorem dX8_init_43 : decode cX8_init 43 = .ok (.bipush 30, 2) := by decide +kernel
theorem dX8_init_45 : decode cX8_init 45 = .ok (.newarray .int, 2) := by decide +kernel
theorem dX8_init_47 : decode cX8_init 47 = .ok (.putfield 28, 3) := by decide +kernel
theorem dX8_init_50 : decode cX8_init 50 = .ok (.aload_n 0, 1) := by decide +kernel
theorem dX8_init_51 : decode cX8_init 51 = .ok (.bipush 120, 2) := by decide +kernel
theorem dX8_init_53 : decode cX8_init 53 = .ok (.newarray .int, 2) := by decide +kernel
theorem dX8_init_55 : decode cX8_init 55 = .ok (.putfield 31, 3) := by decide +kernel
theorem dX8_init_58 : decode cX8_init 58 = .ok (.aload_n 0, 1) := by decide +kernel
theorem dX8_init_59 : decode cX8_init 59 = .ok (.bipush 120, 2) := by decide +kernel
theorem dX8_init_61 : decode cX8_init 61 = .ok (.newarray .int, 2) := by decide +kernel
theorem dX8_init_63 : decode cX8_init 63 = .ok (.putfield 34, 3) := by decide +kernel
theorem dX8_init_66 : decode cX8_init 66 = .ok (.aload_n 0, 1) := by decide +kernel
theorem dX8_init_67 : decode cX8_init 67 = .ok (.bipush 15, 2) := by decide +kernel
theorem dX8_init_69 : decode cX8_init 69 = .ok (.newarray .int, 2) := by decide +kernel
theorem dX8_init_71 : decode cX8_init 71 = .ok (.putfield 37, 3) := by decide +kernel
theorem dX8_init_74 : decode cX8_init 74 = .ok (.aload_n 0, 1) := by decide +kernel
theorem dX8_init_75 : decode cX8_init 75 = .ok (.bipush 15, 2) := by decide +kernel
theorem dX8_init_77 : decode cX8_init 77 = .ok (.newarray .int, 2) := by decide +kernel
theorem dX8_init_79 : decode cX8_init 79 = .ok (.putfield 40, 3) := by decide +kernel
theorem dX8_init_82 : decode cX8_init 82 = .ok (.aload_n 0, 1) := by decide +kernel
theorem dX8_init_83 : decode cX8_init 83 = .ok (.bipush 15, 2) := by decide +kernel
theorem dX8_init_85 : decode cX8_init 85 = .ok (.newarray .int, 2) := by decide +kernel
theorem dX8_init_87 : decode cX8_init 87 = .ok (.putfield 43, 3) := by decide +kernel
theorem dX8_init_90 : decode cX8_init 90 = .ok (.aload_n 0, 1) := by decide +kernel
theorem dX8_init_91 : decode cX8_init 91 = .ok (.bipush 15, 2) := by decide +kernel
theorem dX8_init_93 : decode cX8_init 93 = .ok (.newarray .long, 2) := by decide +kernel
theorem dX8_init_95 : decode cX8_init 95 = .ok (.putfield 46, 3) := by decide +kernel
theorem dX8_init_98 : decode cX8_init 98 = .ok (.aload_n 0, 1) := by decide +kernel
theorem dX8_init_99 : decode cX8_init 99 = .ok (.bipush 15, 2) := by decide +kernel
theorem dX8_init_101 : decode cX8_init 101 = .ok (.newarray .int, 2) := by decide +kernel
theorem dX8_init_103 : decode cX8_init 103 = .ok (.putfield 50, 3) := by decide +kernel
theorem dX8_init_106 : decode cX8_init 106 = .ok (.aload_n 0, 1) := by decide +kernel
theorem dX8_init_107 : decode cX8_init 107 = .ok (.bipush 15, 2) := by decide +kernel
theorem dX8_init_109 : decode cX8_init 109 = .ok (.newarray .int, 2) := by decide +kernel
theorem dX8_init_111 : decode cX8_init 111 = .ok (.putfield 53, 3) := by decide +kernel
theorem dX8_init_114 : decode cX8_init 114 = .ok (.aload_n 0, 1) := by decide +kernel
theorem dX8_init_115 : decode cX8_init 115 = .ok (.bipush 15, 2) := by decide +kernel
theorem dX8_init_117 : decode cX8_init 117 = .ok (.newarray .long, 2) := by decide +kernel
theorem dX8_init_119 : decode cX8_init 119 = .ok (.putfield 56, 3) := by decide +kernel
theorem dX8_init_122 : decode cX8_init 122 = .ok (.aload_n 0, 1) := by decide +kernel
theorem dX8_init_123 : decode cX8_init 123 = .ok (.bipush 15, 2) := by decide +kernel
theorem dX8_init_125 : decode cX8_init 125 = .ok (.newarray .long, 2) := by decide +kernel
theorem dX8_init_127 : decode cX8_init 127 = .ok (.putfield 59, 3) := by decide +kernel
theorem dX8_init_130 : decode cX8_init 130 = .ok (.aload_n 0, 1) := by decide +kernel
theorem dX8_init_131 : decode cX8_init 131 = .ok (.bipush 15, 2) := by decide +kernel
theorem dX8_init_133 : decode cX8_init 133 = .ok (.newarray .int, 2) := by decide +kernel
theorem dX8_init_135 : decode cX8_init 135 = .ok (.putfield 62, 3) := by decide +kernel
theorem dX8_init_138 : decode cX8_init 138 = .ok (.aload_n 0, 1) := by decide +kernel
theorem dX8_init_139 : decode cX8_init 139 = .ok (.sipush 4050, 3) := by decide +kernel
theorem dX8_init_142 : decode cX8_init 142 = .ok (.newarray .long, 2) := by decide +kernel
theorem dX8_init_144 : decode cX8_init 144 = .ok (.putfield 65, 3) := by decide +kernel
theorem dX8_init_147 : decode cX8_init 147 = .ok (.aload_n 0, 1) := by decide +kernel
theorem dX8_init_148 : decode cX8_init 148 = .ok (.bipush 80, 2) := by decide +kernel
theorem dX8_init_150 : decode cX8_init 150 = .ok (.newarray .int, 2) := by decide +kernel
theorem dX8_init_152 : decode cX8_init 152 = .ok (.putfield 68, 3) := by decide +kernel
theorem dX8_init_155 : decode cX8_init 155 = .ok (.aload_n 0, 1) := by decide +kernel
theorem dX8_init_156 : decode cX8_init 156 = .ok (.bipush 80, 2) := by decide +kernel
theorem dX8_init_158 : decode cX8_init 158 = .ok (.newarray .int, 2) := by decide +kernel
theorem dX8_init_160 : decode cX8_init 160 = .ok (.putfield 71, 3) := by decide +kernel
theorem dX8_init_163 : decode cX8_init 163 = .ok (.aload_n 0, 1) := by decide +kernel
theorem dX8_init_164 : decode cX8_init 164 = .ok (.bipush 15, 2) := by decide +kernel
theorem dX8_init_166 : decode cX8_init 166 = .ok (.newarray .int, 2) := by decide +kernel
theorem dX8_init_168 : decode cX8_init 168 = .ok (.putfield 74, 3) := by decide +kernel
theorem dX8_init_171 : decode cX8_init 171 = .ok (.aload_n 0, 1) := by decide +kernel
theorem dX8_init_172 : decode cX8_init 172 = .ok (.bipush 15, 2) := by decide +kernel
theorem dX8_init_174 : decode cX8_init 174 = .ok (.newarray .int, 2) := by decide +kernel
theorem dX8_init_176 : decode cX8_init 176 = .ok (.putfield 77, 3) := by decide +kernel
theorem dX8_init_179 : decode cX8_init 179 = .ok (.aload_n 0, 1) := by decide +kernel
theorem dX8_init_180 : decode cX8_init 180 = .ok (.bipush 15, 2) := by decide +kernel
theorem dX8_init_182 : decode cX8_init 182 = .ok (.newarray .int, 2) := by decide +kernel
theorem dX8_init_184 : decode cX8_init 184 = .ok (.putfield 80, 3) := by decide +kernel
theorem dX8_init_187 : decode cX8_init 187 = .ok (.aload_n 0, 1) := by decide +kernel
theorem dX8_init_188 : decode cX8_init 188 = .ok (.iconst 4, 1) := by decide +kernel
theorem dX8_init_189 : decode cX8_init 189 = .ok (.newarray .int, 2) := by decide +kernel
theorem dX8_init_191 : decode cX8_init 191 = .ok (.putfield 83, 3) := by decide +kernel
theorem dX8_init_194 : decode cX8_init 194 = .ok (.aload_n 0, 1) := by decide +kernel
theorem dX8_init_195 : decode cX8_init 195 = .ok (.sipush 1440, 3) := by decide +kernel
theorem dX8_init_198 : decode cX8_init 198 = .ok (.newarray .int, 2) := by decide +kernel
theorem dX8_init_200 : decode cX8_init 200 = .ok (.putfield 86, 3) := by decide +kernel
theorem dX8_init_203 : decode cX8_init 203 = .ok (.aload_n 0, 1) := by decide +kernel
theorem dX8_init_204 : decode cX8_init 204 = .ok (.sipush 1440, 3) := by decide +kernel
theorem dX8_init_207 : decode cX8_init 207 = .ok (.newarray .int, 2) := by decide +kernel
theorem dX8_init_209 : decode cX8_init 209 = .ok (.putfield 89, 3) := by decide +kernel
theorem dX8_init_212 : decode cX8_init 212 = .ok (.aload_n 0, 1) := by decide +kernel
theorem dX8_init_213 : decode cX8_init 213 = .ok (.bipush 96, 2) := by decide +kernel
theorem dX8_init_215 : decode cX8_init 215 = .ok (.newarray .long, 2) := by decide +kernel
theorem dX8_init_217 : decode cX8_init 217 = .ok (.putfield 92, 3) := by decide +kernel
theorem dX8_init_220 : decode cX8_init 220 = .ok (.aload_n 0, 1) := by decide +kernel
theorem dX8_init_221 : decode cX8_init 221 = .ok (.bipush 96, 2) := by decide +kernel
theorem dX8_init_223 : decode cX8_init 223 = .ok (.newarray .boolean, 2) := by decide +kernel
theorem dX8_init_225 : decode cX8_init 225 = .ok (.putfield 95, 3) := by decide +kernel
theorem dX8_init_228 : decode cX8_init 228 = .ok (.aload_n 0, 1) := by decide +kernel
theorem dX8_init_229 : decode cX8_init 229 = .ok (.bipush 15, 2) := by decide +kernel
theorem dX8_init_231 : decode cX8_init 231 = .ok (.newarray .int, 2) := by decide +kernel
theorem dX8_init_233 : decode cX8_init 233 = .ok (.putfield 99, 3) := by decide +kernel
theorem dX8_init_236 : decode cX8_init 236 = .ok (.aload_n 0, 1) := by decide +kernel
theorem dX8_init_237 : decode cX8_init 237 = .ok (.bipush 15, 2) := by decide +kernel
theorem dX8_init_239 : decode cX8_init 239 = .ok (.newarray .int, 2) := by decide +kernel
theorem dX8_init_241 : decode cX8_init 241 = .ok (.putfield 102, 3) := by decide +kernel
theorem dX8_init_244 : decode cX8_init 244 = .ok (.return_, 1) := by decide +kernel
theorem dX8_thrown_0 : decode cX8_thrown 0 = .ok (.aload_n 0, 1) := by decide +kernel
theorem dX8_thrown_1 : decode cX8_thrown 1 = .ok (.getfield 105, 3) := by decide +kernel
theorem dX8_thrown_4 : decode cX8_thrown 4 = .ok (.ireturn, 1) := by decide +kernel
theorem dX8_in_0 : decode cX8_in 0 = .ok (.lload_n 0, 1) := by decide +kernel
theorem dX8_in_1 : decode cX8_in 1 = .ok (.lload_n 2, 1) := by decide +kernel
theorem dX8_in_2 : decode cX8_in 2 = .ok (.lcmp, 1) := by decide +kernel
theorem dX8_in_3 : decode cX8_in 3 = .ok (.ifCond .lt 14, 3) := by decide +kernel
theorem dX8_in_6 : decode cX8_in 6 = .ok (.lload_n 0, 1) := by decide +kernel
theorem dX8_in_7 : decode cX8_in 7 = .ok (.lload 4, 2) := by decide +kernel
theorem dX8_in_9 : decode cX8_in 9 = .ok (.lcmp, 1) := by decide +kernel
theorem dX8_in_10 : decode cX8_in 10 = .ok (.ifCond .gt 7, 3) := by decide +kernel
theorem dX8_in_13 : decode cX8_in 13 = .ok (.iconst 1, 1) := by decide +kernel
theorem dX8_in_14 : decode cX8_in 14 = .ok (.goto 4, 3) := by decide +kernel
theorem dX8_in_17 : decode cX8_in 17 = .ok (.iconst 0, 1) := by decide +kernel
theorem dX8_in_18 : decode cX8_in 18 = .ok (.ireturn, 1) := by decide +kernel
theorem dX8_no_0 : decode cX8_no 0 = .ok (.aload_n 0, 1) := by decide +kernel
theorem dX8_no_1 : decode cX8_no 1 = .ok (.iload_n 1, 1) := by decide +kernel
theorem dX8_no_2 : decode cX8_no 2 = .ok (.putfield 108, 3) := by decide +kernel
theorem dX8_no_5 : decode cX8_no 5 = .ok (.iconst (-1), 1) := by decide +kernel
theorem dX8_no_6 : decode cX8_no 6 = .ok (.ireturn, 1) := by decide +kernel
theorem dX8_nothing_0 : decode cX8_nothing 0 = .ok (.aload_n 0, 1) := by decide +kernel
theorem dX8_nothing_1 : decode cX8_nothing 1 = .ok (.iload_n 1, 1) := by decide +kernel
theorem dX8_nothing_2 : decode cX8_nothing 2 = .ok (.putfield 108, 3) := by decide +kernel
theorem dX8_nothing_5 : decode cX8_nothing 5 = .ok (.ldc2_w 111, 3) := by decide +kernel
theorem dX8_nothing_8 : decode cX8_nothing 8 = .ok (.lreturn, 1) := by decide +kernel
theorem dX8_isRefused_0 : decode cX8_isRefused 0 = .ok (.aload_n 0, 1) := by decide +kernel
theorem dX8_isRefused_1 : decode cX8_isRefused 1 = .ok (.iconst 0, 1) := by decide +kernel
theorem dX8_isRefused_2 : decode cX8_isRefused 2 = .ok (.putfield 105, 3) := by decide +kernel
theorem dX8_isRefused_5 : decode cX8_isRefused 5 = .ok (.aload_n 0, 1) := by decide +kernel
theorem dX8_isRefused_6 : decode cX8_isRefused 6 = .ok (.iconst (-1), 1) := by decide +kernel
theorem dX8_isRefused_7 : decode cX8_isRefused 7 = .ok (.putfield 11, 3) := by decide +kernel
theorem dX8_isRefused_10 : decode cX8_isRefused 10 = .ok (.aload_n 0, 1) := by decide +kernel
theorem dX8_isRefused_11 : decode cX8_isRefused 11 = .ok (.iload_n 1, 1) := by decide +kernel
theorem dX8_isRefused_12 : decode cX8_isRefused 12 = .ok (.putfield 108, 3) := by decide +kernel
theorem dX8_isRefused_15 : decode cX8_isRefused 15 = .ok (.iload_n 1, 1) := by decide +kernel
theorem dX8_isRefused_16 : decode cX8_isRefused 16 = .ok (.ifCond .eq 7, 3) := by decide +kernel
theorem dX8_isRefused_19 : decode cX8_isRefused 19 = .ok (.iconst 1, 1) := by decide +kernel
theorem dX8_isRefused_20 : decode cX8_isRefused 20 = .ok (.goto 4, 3) := by decide +kernel
theorem dX8_isRefused_23 : decode cX8_isRefused 23 = .ok (.iconst 0, 1) := by decide +kernel
theorem dX8_isRefused_24 : decode cX8_isRefused 24 = .ok (.ireturn, 1) := by decide +kernel
theorem dX8_unless_0 : decode cX8_unless 0 = .ok (.iload_n 0, 1) := by decide +kernel
theorem dX8_unless_1 : decode cX8_unless 1 = .ok (.ifCond .eq 7, 3) := by decide +kernel
theorem dX8_unless_4 : decode cX8_unless 4 = .ok (.iconst 0, 1) := by decide +kernel
theorem dX8_unless_5 : decode cX8_unless 5 = .ok (.goto 4, 3) := by decide +kernel
theorem dX8_unless_8 : decode cX8_unless 8 = .ok (.iconst 1, 1) := by decide +kernel
theorem dX8_unless_9 : decode cX8_unless 9 = .ok (.ireturn, 1) := by decide +kernel
theorem dX8_unless__0 : decode cX8_unless_ 0 = .ok (.iload_n 0, 1) := by decide +kernel
theorem dX8_unless__1 : decode cX8_unless_ 1 = .ok (.ifCond .ne 7, 3) := by decide +kernel
theorem dX8_unless__4 : decode cX8_unless_ 4 = .ok (.iconst 1, 1) := by decide +kernel
theorem dX8_unless__5 : decode cX8_unless_ 5 = .ok (.goto 12, 3) := by decide +kernel
theorem dX8_unless__8 : decode cX8_unless_ 8 = .ok (.iload_n 1, 1) := by decide +kernel
theorem dX8_unless__9 : decode cX8_unless_ 9 = .ok (.ifCond .eq 7, 3) := by decide +kernel
theorem dX8_unless__12 : decode cX8_unless_ 12 = .ok (.iconst 0, 1) := by decide +kernel
theorem dX8_unless__13 : decode cX8_unless_ 13 = .ok (.goto 4, 3) := by decide +kernel
theorem dX8_unless__16 : decode cX8_unless_ 16 = .ok (.iconst 2, 1) := by decide +kernel
theorem dX8_unless__17 : decode cX8_unless_ 17 = .ok (.ireturn, 1) := by decide +kernel
theorem dX8_feed_0 : decode cX8_feed 0 = .ok (.aload_n 0, 1) := by decide +kernel
theorem dX8_feed_1 : decode cX8_feed 1 = .ok (.iconst 0, 1) := by decide +kernel
theorem dX8_feed_2 : decode cX8_feed 2 = .ok (.putfield 105, 3) := by decide +kernel
theorem dX8_feed_5 : decode cX8_feed 5 = .ok (.aload_n 0, 1) := by decide +kernel
theorem dX8_feed_6 : decode cX8_feed 6 = .ok (.getfield 113, 3) := by decide +kernel
theorem dX8_feed_9 : decode cX8_feed 9 = .ok (.sipush 480, 3) := by decide +kernel
theorem dX8_feed_12 : decode cX8_feed 12 = .ok (.if_icmp .le 5, 3) := by decide +kernel
theorem dX8_feed_15 : decode cX8_feed 15 = .ok (.iconst (-1), 1) := by decide +kernel
theorem dX8_feed_16 : decode cX8_feed 16 = .ok (.ireturn, 1) := by decide +kernel
theorem dX8_feed_17 : decode cX8_feed 17 = .ok (.aload_n 0, 1) := by decide +kernel
theorem dX8_feed_18 : decode cX8_feed 18 = .ok (.iload_n 1, 1) := by decide +kernel
theorem dX8_feed_19 : decode cX8_feed 19 = .ok (.invokevirtual 116, 3) := by decide +kernel
theorem dX8_feed_22 : decode cX8_feed 22 = .ok (.aload_n 0, 1) := by decide +kernel
theorem dX8_feed_23 : decode cX8_feed 23 = .ok (.iload_n 2, 1) := by decide +kernel
theorem dX8_feed_24 : decode cX8_feed 24 = .ok (.invokevirtual 116, 3) := by decide +kernel
theorem dX8_feed_27 : decode cX8_feed 27 = .ok (.aload_n 0, 1) := by decide +kernel
theorem dX8_feed_28 : decode cX8_feed 28 = .ok (.iload_n 3, 1) := by decide +kernel
theorem dX8_feed_29 : decode cX8_feed 29 = .ok (.invokevirtual 116, 3) := by decide +kernel
theorem dX8_feed_32 : decode cX8_feed 32 = .ok (.aload_n 0, 1) := by decide +kernel
theorem dX8_feed_33 : decode cX8_feed 33 = .ok (.iload 4, 2) := by decide +kernel
theorem dX8_feed_35 : decode cX8_feed 35 = .ok (.invokevirtual 116, 3) := by decide +kernel
theorem dX8_feed_38 : decode cX8_feed 38 = .ok (.aload_n 0, 1) := by decide +kernel
theorem dX8_feed_39 : decode cX8_feed 39 = .ok (.iload 5, 2) := by decide +kernel
theorem dX8_feed_41 : decode cX8_feed 41 = .ok (.invokevirtual 116, 3) := by decide +kernel
theorem dX8_feed_44 : decode cX8_feed 44 = .ok (.aload_n 0, 1) := by decide +kernel
theorem dX8_feed_45 : decode cX8_feed 45 = .ok (.getfield 113, 3) := by decide +kernel
theorem dX8_feed_48 : decode cX8_feed 48 = .ok (.ireturn, 1) := by decide +kernel
theorem dX8_laysWord_0 : decode cX8_laysWord 0 = .ok (.iconst 0, 1) := by decide +kernel
theorem dX8_laysWord_1 : decode cX8_laysWord 1 = .ok (.istore_n 2, 1) := by decide +kernel
theorem dX8_laysWord_2 : decode cX8_laysWord 2 = .ok (.iload_n 2, 1) := by decide +kernel
theorem dX8_laysWord_3 : decode cX8_laysWord 3 = .ok (.iconst 4, 1) := by decide +kernel
theorem dX8_laysWord_4 : decode cX8_laysWord 4 = .ok (.if_icmp .ge 33, 3) := by decide +kernel
theorem dX8_laysWord_7 : decode cX8_laysWord 7 = .ok (.aload_n 0, 1) := by decide +kernel
theorem dX8_laysWord_8 : decode cX8_laysWord 8 = .ok (.getfield 15, 3) := by decide +kernel
theorem dX8_laysWord_11 : decode cX8_laysWord 11 = .ok (.aload_n 0, 1) := by decide +kernel
theorem dX8_laysWord_12 : decode cX8_laysWord 12 = .ok (.getfield 113, 3) := by decide +kernel
theorem dX8_laysWord_15 : decode cX8_laysWord 15 = .ok (.iload_n 2, 1) := by decide +kernel
theorem dX8_laysWord_16 : decode cX8_laysWord 16 = .ok (.iadd, 1) := by decide +kernel
theorem dX8_laysWord_17 : decode cX8_laysWord 17 = .ok (.iload_n 1, 1) := by decide +kernel
theorem dX8_laysWord_18 : decode cX8_laysWord 18 = .ok (.bipush 24, 2) := by decide +kernel
theorem dX8_laysWord_20 : decode cX8_laysWord 20 = .ok (.bipush 8, 2) := by decide +kernel
theorem dX8_laysWord_22 : decode cX8_laysWord 22 = .ok (.iload_n 2, 1) := by decide +kernel
theorem dX8_laysWord_23 : decode cX8_laysWord 23 = .ok (.imul, 1) := by decide +kernel
theorem dX8_laysWord_24 : decode cX8_laysWord 24 = .ok (.isub, 1) := by decide +kernel
theorem dX8_laysWord_25 : decode cX8_laysWord 25 = .ok (.ishr, 1) := by decide +kernel
theorem dX8_laysWord_26 : decode cX8_laysWord 26 = .ok (.sipush 255, 3) := by decide +kernel
theorem dX8_laysWord_29 : decode cX8_laysWord 29 = .ok (.iand, 1) := by decide +kernel
theorem dX8_laysWord_30 : decode cX8_laysWord 30 = .ok (.iastore, 1) := by decide +kernel
theorem dX8_laysWord_31 : decode cX8_laysWord 31 = .ok (.iinc 2 1, 3) := by decide +kernel
theorem dX8_laysWord_34 : decode cX8_laysWord 34 = .ok (.goto (-32), 3) := by decide +kernel
theorem dX8_laysWord_37 : decode cX8_laysWord 37 = .ok (.aload_n 0, 1) := by decide +kernel
theorem dX8_laysWord_38 : decode cX8_laysWord 38 = .ok (.dup, 1) := by decide +kernel
theorem dX8_laysWord_39 : decode cX8_laysWord 39 = .ok (.getfield 113, 3) := by decide +kernel
theorem dX8_laysWord_42 : decode cX8_laysWord 42 = .ok (.iconst 4, 1) := by decide +kernel
theorem dX8_laysWord_43 : decode cX8_laysWord 43 = .ok (.iadd, 1) := by decide +kernel
theorem dX8_laysWord_44 : decode cX8_laysWord 44 = .ok (.putfield 113, 3) := by decide +kernel
theorem dX8_laysWord_47 : decode cX8_laysWord 47 = .ok (.return_, 1) := by decide +kernel
theorem dX8_isInput_0 : decode cX8_isInput 0 = .ok (.iload_n 0, 1) := by decide +kernel
theorem dX8_isInput_1 : decode cX8_isInput 1 = .ok (.bipush (-2), 2) := by decide +kernel
theorem dX8_isInput_3 : decode cX8_isInput 3 = .ok (.if_icmp .ne 7, 3) := by decide +kernel
theorem dX8_isInput_6 : decode cX8_isInput 6 = .ok (.iconst 1, 1) := by decide +kernel
theorem dX8_isInput_7 : decode cX8_isInput 7 = .ok (.goto 4, 3) := by decide +kernel
theorem dX8_isInput_10 : decode cX8_isInput 10 = .ok (.iconst 0, 1) := by decide +kernel
theorem dX8_isInput_11 : decode cX8_isInput 11 = .ok (.ireturn, 1) := by decide +kernel
theorem dX8_operands_0 : decode cX8_operands 0 = .ok (.iload_n 0, 1) := by decide +kernel
theorem dX8_operands_1 : decode cX8_operands 1 = .ok (.iconst 3, 1) := by decide +kernel
theorem dX8_operands_2 : decode cX8_operands 2 = .ok (.if_icmp .ne 7, 3) := by decide +kernel
theorem dX8_operands_5 : decode cX8_operands 5 = .ok (.iconst 4, 1) := by decide +kernel
theorem dX8_operands_6 : decode cX8_operands 6 = .ok (.goto 14, 3) := by decide +kernel
theorem dX8_operands_9 : decode cX8_operands 9 = .ok (.iload_n 0, 1) := by decide +kernel
theorem dX8_operands_10 : decode cX8_operands 10 = .ok (.bipush (-2), 2) := by decide +kernel
theorem dX8_operands_12 : decode cX8_operands 12 = .ok (.if_icmp .ne 7, 3) := by decide +kernel
theorem dX8_operands_15 : decode cX8_operands 15 = .ok (.iconst 0, 1) := by decide +kernel
theorem dX8_operands_16 : decode cX8_operands 16 = .ok (.goto 4, 3) := by decide +kernel
theorem dX8_operands_19 : decode cX8_operands 19 = .ok (.iconst 2, 1) := by decide +kernel
theorem dX8_operands_20 : decode cX8_operands 20 = .ok (.ireturn, 1) := by decide +kernel
theorem dX8_see_0 : decode cX8_see 0 = .ok (.iload_n 1, 1) := by decide +kernel
theorem dX8_see_1 : decode cX8_see 1 = .ok (.aload_n 0, 1) := by decide +kernel
theorem dX8_see_2 : decode cX8_see 2 = .ok (.getfield 120, 3) := by decide +kernel
theorem dX8_see_5 : decode cX8_see 5 = .ok (.if_icmp .ge 12, 3) := by decide +kernel
theorem dX8_see_8 : decode cX8_see 8 = .ok (.aload_n 0, 1) := by decide +kernel
theorem dX8_see_9 : decode cX8_see 9 = .ok (.getfield 15, 3) := by decide +kernel
theorem dX8_see_12 : decode cX8_see 12 = .ok (.iload_n 1, 1) := by decide +kernel
theorem dX8_see_13 : decode cX8_see 13 = .ok (.iaload, 1) := by decide +kernel
theorem dX8_see_14 : decode cX8_see 14 = .ok (.goto 4, 3) := by decide +kernel
theorem dX8_see_17 : decode cX8_see 17 = .ok (.iconst (-1), 1) := by decide +kernel
theorem dX8_see_18 : decode cX8_see 18 = .ok (.ireturn, 1) := by decide +kernel
theorem dX8_goesOn_0 : decode cX8_goesOn 0 = .ok (.aload_n 0, 1) := by decide +kernel
theorem dX8_goesOn_1 : decode cX8_goesOn 1 = .ok (.aload_n 0, 1) := by decide +kernel
theorem dX8_goesOn_2 : decode cX8_goesOn 2 = .ok (.getfield 123, 3) := by decide +kernel
theorem dX8_goesOn_5 : decode cX8_goesOn 5 = .ok (.invokevirtual 126, 3) := by decide +kernel
theorem dX8_goesOn_8 : decode cX8_goesOn 8 = .ok (.bipush 32, 2) := by decide +kernel
theorem dX8_goesOn_10 : decode cX8_goesOn 10 = .ok (.if_icmp .ne 16, 3) := by decide +kernel
theorem dX8_goesOn_13 : decode cX8_goesOn 13 = .ok (.aload_n 0, 1) := by decide +kernel
theorem dX8_goesOn_14 : decode cX8_goesOn 14 = .ok (.dup, 1) := by decide +kernel
theorem dX8_goesOn_15 : decode cX8_goesOn 15 = .ok (.getfield 123, 3) := by decide +kernel
theorem dX8_goesOn_18 : decode cX8_goesOn 18 = .ok (.iconst 1, 1) := by decide +kernel
theorem dX8_goesOn_19 : decode cX8_goesOn 19 = .ok (.iadd, 1) := by decide +kernel
theorem dX8_goesOn_20 : decode cX8_goesOn 20 = .ok (.putfield 123, 3) := by decide +kernel
theorem dX8_goesOn_23 : decode cX8_goesOn 23 = .ok (.goto (-23), 3) := by decide +kernel
theorem dX8_goesOn_26 : decode cX8_goesOn 26 = .ok (.aload_n 0, 1) := by decide +kernel
theorem dX8_goesOn_27 : decode cX8_goesOn 27 = .ok (.aload_n 0, 1) := by decide +kernel
theorem dX8_goesOn_28 : decode cX8_goesOn 28 = .ok (.getfield 123, 3) := by decide +kernel
theorem dX8_goesOn_31 : decode cX8_goesOn 31 = .ok (.putfield 130, 3) := by decide +kernel
theorem dX8_goesOn_34 : decode cX8_goesOn 34 = .ok (.aload_n 0, 1) := by decide +kernel
theorem dX8_goesOn_35 : decode cX8_goesOn 35 = .ok (.aload_n 0, 1) := by decide +kernel
theorem dX8_goesOn_36 : decode cX8_goesOn 36 = .ok (.getfield 123, 3) := by decide +kernel
theorem dX8_goesOn_39 : decode cX8_goesOn 39 = .ok (.invokevirtual 126, 3) := by decide +kernel
theorem dX8_goesOn_42 : decode cX8_goesOn 42 = .ok (.istore_n 1, 1) := by decide +kernel
theorem dX8_goesOn_43 : decode cX8_goesOn 43 = .ok (.iload_n 1, 1) := by decide +kernel
theorem dX8_goesOn_44 : decode cX8_goesOn 44 = .ok (.iconst (-1), 1) := by decide +kernel
theorem dX8_goesOn_45 : decode cX8_goesOn 45 = .ok (.if_icmp .ne 9, 3) := by decide +kernel
theorem dX8_goesOn_48 : decode cX8_goesOn 48 = .ok (.aload_n 0, 1) := by decide +kernel
theorem dX8_goesOn_49 : decode cX8_goesOn 49 = .ok (.iconst 0, 1) := by decide +kernel
theorem dX8_goesOn_50 : decode cX8_goesOn 50 = .ok (.putfield 133, 3) := by decide +kernel
theorem dX8_goesOn_53 : decode cX8_goesOn 53 = .ok (.return_, 1) := by decide +kernel
theorem dX8_goesOn_54 : decode cX8_goesOn 54 = .ok (.iload_n 1, 1) := by decide +kernel
theorem dX8_goesOn_55 : decode cX8_goesOn 55 = .ok (.i2l, 1) := by decide +kernel
theorem dX8_goesOn_56 : decode cX8_goesOn 56 = .ok (.ldc2_w 136, 3) := by decide +kernel
theorem dX8_goesOn_59 : decode cX8_goesOn 59 = .ok (.ldc2_w 138, 3) := by decide +kernel
theorem dX8_goesOn_62 : decode cX8_goesOn 62 = .ok (.invokestatic 140, 3) := by decide +kernel
theorem dX8_goesOn_65 : decode cX8_goesOn 65 = .ok (.ifCond .eq 61, 3) := by decide +kernel
theorem dX8_goesOn_68 : decode cX8_goesOn 68 = .ok (.aload_n 0, 1) := by decide +kernel
theorem dX8_goesOn_69 : decode cX8_goesOn 69 = .ok (.aload_n 0, 1) := by decide +kernel
theorem dX8_goesOn_70 : decode cX8_goesOn 70 = .ok (.getfield 123, 3) := by decide +kernel
theorem dX8_goesOn_73 : decode cX8_goesOn 73 = .ok (.invokevirtual 126, 3) := by decide +kernel
theorem dX8_goesOn_76 : decode cX8_goesOn 76 = .ok (.i2l, 1) := by decide +kernel
theorem dX8_goesOn_77 : decode cX8_goesOn 77 = .ok (.ldc2_w 136, 3) := by decide +kernel
theorem dX8_goesOn_80 : decode cX8_goesOn 80 = .ok (.ldc2_w 138, 3) := by decide +kernel
theorem dX8_goesOn_83 : decode cX8_goesOn 83 = .ok (.invokestatic 140, 3) := by decide +kernel
theorem dX8_goesOn_86 : decode cX8_goesOn 86 = .ok (.ifCond .eq 16, 3) := by decide +kernel
theorem dX8_goesOn_89 : decode cX8_goesOn 89 = .ok (.aload_n 0, 1) := by decide +kernel
theorem dX8_goesOn_90 : decode cX8_goesOn 90 = .ok (.dup, 1) := by decide +kernel
theorem dX8_goesOn_91 : decode cX8_goesOn 91 = .ok (.getfield 123, 3) := by decide +kernel
theorem dX8_goesOn_94 : decode cX8_goesOn 94 = .ok (.iconst 1, 1) := by decide +kernel
theorem dX8_goesOn_95 : decode cX8_goesOn 95 = .ok (.iadd, 1) := by decide +kernel
theorem dX8_goesOn_96 : decode cX8_goesOn 96 = .ok (.putfield 123, 3) := by decide +kernel
theorem dX8_goesOn_99 : decode cX8_goesOn 99 = .ok (.goto (-31), 3) := by decide +kernel
theorem dX8_goesOn_102 : decode cX8_goesOn 102 = .ok (.aload_n 0, 1) := by decide +kernel
theorem dX8_goesOn_103 : decode cX8_goesOn 103 = .ok (.aload_n 0, 1) := by decide +kernel
theorem dX8_goesOn_104 : decode cX8_goesOn 104 = .ok (.getfield 123, 3) := by decide +kernel
theorem dX8_goesOn_107 : decode cX8_goesOn 107 = .ok (.aload_n 0, 1) := by decide +kernel
theorem dX8_goesOn_108 : decode cX8_goesOn 108 = .ok (.getfield 130, 3) := by decide +kernel
theorem dX8_goesOn_111 : decode cX8_goesOn 111 = .ok (.isub, 1) := by decide +kernel
theorem dX8_goesOn_112 : decode cX8_goesOn 112 = .ok (.bipush 6, 2) := by decide +kernel
theorem dX8_goesOn_114 : decode cX8_goesOn 114 = .ok (.if_icmp .le 7, 3) := by decide +kernel
theorem dX8_goesOn_117 : decode cX8_goesOn 117 = .ok (.iconst 1, 1) := by decide +kernel
theorem dX8_goesOn_118 : decode cX8_goesOn 118 = .ok (.goto 4, 3) := by decide +kernel
theorem dX8_goesOn_121 : decode cX8_goesOn 121 = .ok (.iconst 2, 1) := by decide +kernel
theorem dX8_goesOn_122 : decode cX8_goesOn 122 = .ok (.putfield 133, 3) := by decide +kernel
theorem dX8_goesOn_125 : decode cX8_goesOn 125 = .ok (.return_, 1) := by decide +kernel
theorem dX8_goesOn_126 : decode cX8_goesOn 126 = .ok (.iload_n 1, 1) := by decide +kernel
theorem dX8_goesOn_127 : decode cX8_goesOn 127 = .ok (.i2l, 1) := by decide +kernel
theorem dX8_goesOn_128 : decode cX8_goesOn 128 = .ok (.ldc2_w 144, 3) := by decide +kernel
theorem dX8_goesOn_131 : decode cX8_goesOn 131 = .ok (.ldc2_w 146, 3) := by decide +kernel
theorem dX8_goesOn_134 : decode cX8_goesOn 134 = .ok (.invokestatic 140, 3) := by decide +kernel
theorem dX8_goesOn_137 : decode cX8_goesOn 137 = .ok (.ifCond .eq 108, 3) := by decide +kernel
theorem dX8_goesOn_140 : decode cX8_goesOn 140 = .ok (.aload_n 0, 1) := by decide +kernel
theorem dX8_goesOn_141 : decode cX8_goesOn 141 = .ok (.iconst 0, 1) := by decide +kernel
theorem dX8_goesOn_142 : decode cX8_goesOn 142 = .ok (.putfield 148, 3) := by decide +kernel
theorem dX8_goesOn_145 : decode cX8_goesOn 145 = .ok (.aload_n 0, 1) := by decide +kernel
theorem dX8_goesOn_146 : decode cX8_goesOn 146 = .ok (.aload_n 0, 1) := by decide +kernel
theorem dX8_goesOn_147 : decode cX8_goesOn 147 = .ok (.getfield 123, 3) := by decide +kernel
theorem dX8_goesOn_150 : decode cX8_goesOn 150 = .ok (.invokevirtual 126, 3) := by decide +kernel
theorem dX8_goesOn_153 : decode cX8_goesOn 153 = .ok (.i2l, 1) := by decide +kernel
theorem dX8_goesOn_154 : decode cX8_goesOn 154 = .ok (.ldc2_w 144, 3) := by decide +kernel
theorem dX8_goesOn_157 : decode cX8_goesOn 157 = .ok (.ldc2_w 146, 3) := by decide +kernel
theorem dX8_goesOn_160 : decode cX8_goesOn 160 = .ok (.invokestatic 140, 3) := by decide +kernel
theorem dX8_goesOn_163 : decode cX8_goesOn 163 = .ok (.ifCond .eq 59, 3) := by decide +kernel
theorem dX8_goesOn_166 : decode cX8_goesOn 166 = .ok (.aload_n 0, 1) := by decide +kernel
theorem dX8_goesOn_167 : decode cX8_goesOn 167 = .ok (.aload_n 0, 1) := by decide +kernel
theorem dX8_goesOn_168 : decode cX8_goesOn 168 = .ok (.getfield 123, 3) := by decide +kernel
theorem dX8_goesOn_171 : decode cX8_goesOn 171 = .ok (.aload_n 0, 1) := by decide +kernel
theorem dX8_goesOn_172 : decode cX8_goesOn 172 = .ok (.getfield 130, 3) := by decide +kernel
theorem dX8_goesOn_175 : decode cX8_goesOn 175 = .ok (.isub, 1) := by decide +kernel
theorem dX8_goesOn_176 : decode cX8_goesOn 176 = .ok (.iconst 4, 1) := by decide +kernel
theorem dX8_goesOn_177 : decode cX8_goesOn 177 = .ok (.if_icmp .ge 25, 3) := by decide +kernel
theorem dX8_goesOn_180 : decode cX8_goesOn 180 = .ok (.bipush 10, 2) := by decide +kernel
theorem dX8_goesOn_182 : decode cX8_goesOn 182 = .ok (.aload_n 0, 1) := by decide +kernel
theorem dX8_goesOn_183 : decode cX8_goesOn 183 = .ok (.getfield 148, 3) := by decide +kernel
theorem dX8_goesOn_186 : decode cX8_goesOn 186 = .ok (.imul, 1) := by decide +kernel
theorem dX8_goesOn_187 : decode cX8_goesOn 187 = .ok (.aload_n 0, 1) := by decide +kernel
theorem dX8_goesOn_188 : decode cX8_goesOn 188 = .ok (.aload_n 0, 1) := by decide +kernel
theorem dX8_goesOn_189 : decode cX8_goesOn 189 = .ok (.getfield 123, 3) := by decide +kernel
theorem dX8_goesOn_192 : decode cX8_goesOn 192 = .ok (.invokevirtual 126, 3) := by decide +kernel
theorem dX8_goesOn_195 : decode cX8_goesOn 195 = .ok (.iadd, 1) := by decide +kernel
theorem dX8_goesOn_196 : decode cX8_goesOn 196 = .ok (.bipush 48, 2) := by decide +kernel
theorem dX8_goesOn_198 : decode cX8_goesOn 198 = .ok (.isub, 1) := by decide +kernel
theorem dX8_goesOn_199 : decode cX8_goesOn 199 = .ok (.goto 7, 3) := by decide +kernel
theorem dX8_goesOn_202 : decode cX8_goesOn 202 = .ok (.aload_n 0, 1) := by decide +kernel
theorem dX8_goesOn_203 : decode cX8_goesOn 203 = .ok (.getfield 148, 3) := by decide +kernel
theorem dX8_goesOn_206 : decode cX8_goesOn 206 = .ok (.putfield 148, 3) := by decide +kernel
theorem dX8_goesOn_209 : decode cX8_goesOn 209 = .ok (.aload_n 0, 1) := by decide +kernel
theorem dX8_goesOn_210 : decode cX8_goesOn 210 = .ok (.dup, 1) := by decide +kernel
theorem dX8_goesOn_211 : decode cX8_goesOn 211 = .ok (.getfield 123, 3) := by decide +kernel
theorem dX8_goesOn_214 : decode cX8_goesOn 214 = .ok (.iconst 1, 1) := by decide +kernel
theorem dX8_goesOn_215 : decode cX8_goesOn 215 = .ok (.iadd, 1) := by decide +kernel
theorem dX8_goesOn_216 : decode cX8_goesOn 216 = .ok (.putfield 123, 3) := by decide +kernel
theorem dX8_goesOn_219 : decode cX8_goesOn 219 = .ok (.goto (-74), 3) := by decide +kernel
theorem dX8_goesOn_222 : decode cX8_goesOn 222 = .ok (.aload_n 0, 1) := by decide +kernel
theorem dX8_goesOn_223 : decode cX8_goesOn 223 = .ok (.aload_n 0, 1) := by decide +kernel
theorem dX8_goesOn_224 : decode cX8_goesOn 224 = .ok (.getfield 123, 3) := by decide +kernel
theorem dX8_goesOn_227 : decode cX8_goesOn 227 = .ok (.aload_n 0, 1) := by decide +kernel
theorem dX8_goesOn_228 : decode cX8_goesOn 228 = .ok (.getfield 130, 3) := by decide +kernel
theorem dX8_goesOn_231 : decode cX8_goesOn 231 = .ok (.isub, 1) := by decide +kernel
theorem dX8_goesOn_232 : decode cX8_goesOn 232 = .ok (.iconst 4, 1) := by decide +kernel
theorem dX8_goesOn_233 : decode cX8_goesOn 233 = .ok (.if_icmp .le 7, 3) := by decide +kernel
theorem dX8_goesOn_236 : decode cX8_goesOn 236 = .ok (.iconst 1, 1) := by decide +kernel
theorem dX8_goesOn_237 : decode cX8_goesOn 237 = .ok (.goto 4, 3) := by decide +kernel
theorem dX8_goesOn_240 : decode cX8_goesOn 240 = .ok (.iconst 3, 1) := by decide +kernel
theorem dX8_goesOn_241 : decode cX8_goesOn 241 = .ok (.putfield 133, 3) := by decide +kernel
theorem dX8_goesOn_244 : decode cX8_goesOn 244 = .ok (.return_, 1) := by decide +kernel
theorem dX8_goesOn_245 : decode cX8_goesOn 245 = .ok (.aload_n 0, 1) := by decide +kernel
theorem dX8_goesOn_246 : decode cX8_goesOn 246 = .ok (.dup, 1) := by decide +kernel
theorem dX8_goesOn_247 : decode cX8_goesOn 247 = .ok (.getfield 123, 3) := by decide +kernel
theorem dX8_goesOn_250 : decode cX8_goesOn 250 = .ok (.iconst 1, 1) := by decide +kernel
theorem dX8_goesOn_251 : decode cX8_goesOn 251 = .ok (.iadd, 1) := by decide +kernel
theorem dX8_goesOn_252 : decode cX8_goesOn 252 = .ok (.putfield 123, 3) := by decide +kernel
theorem dX8_goesOn_255 : decode cX8_goesOn 255 = .ok (.aload_n 0, 1) := by decide +kernel
theorem dX8_goesOn_256 : decode cX8_goesOn 256 = .ok (.iload_n 1, 1) := by decide +kernel
theorem dX8_goesOn_257 : decode cX8_goesOn 257 = .ok (.bipush 59, 2) := by decide +kernel
theorem dX8_goesOn_259 : decode cX8_goesOn 259 = .ok (.if_icmp .eq 33, 3) := by decide +kernel
theorem dX8_goesOn_262 : decode cX8_goesOn 262 = .ok (.iload_n 1, 1) := by decide +kernel
theorem dX8_goesOn_263 : decode cX8_goesOn 263 = .ok (.bipush 61, 2) := by decide +kernel
theorem dX8_goesOn_265 : decode cX8_goesOn 265 = .ok (.if_icmp .eq 27, 3) := by decide +kernel
theorem dX8_goesOn_268 : decode cX8_goesOn 268 = .ok (.iload_n 1, 1) := by decide +kernel
theorem dX8_goesOn_269 : decode cX8_goesOn 269 = .ok (.bipush 43, 2) := by decide +kernel
theorem dX8_goesOn_271 : decode cX8_goesOn 271 = .ok (.if_icmp .eq 21, 3) := by decide +kernel
theorem dX8_goesOn_274 : decode cX8_goesOn 274 = .ok (.iload_n 1, 1) := by decide +kernel
theorem dX8_goesOn_275 : decode cX8_goesOn 275 = .ok (.bipush 45, 2) := by decide +kernel
theorem dX8_goesOn_277 : decode cX8_goesOn 277 = .ok (.if_icmp .eq 15, 3) := by decide +kernel
theorem dX8_goesOn_280 : decode cX8_goesOn 280 = .ok (.iload_n 1, 1) := by decide +kernel
theorem dX8_goesOn_281 : decode cX8_goesOn 281 = .ok (.bipush 42, 2) := by decide +kernel
theorem dX8_goesOn_283 : decode cX8_goesOn 283 = .ok (.if_icmp .eq 9, 3) := by decide +kernel
theorem dX8_goesOn_286 : decode cX8_goesOn 286 = .ok (.iload_n 1, 1) := by decide +kernel
theorem dX8_goesOn_287 : decode cX8_goesOn 287 = .ok (.bipush 60, 2) := by decide +kernel
theorem dX8_goesOn_289 : decode cX8_goesOn 289 = .ok (.if_icmp .ne 7, 3) := by decide +kernel
theorem dX8_goesOn_292 : decode cX8_goesOn 292 = .ok (.iload_n 1, 1) := by decide +kernel
theorem dX8_goesOn_293 : decode cX8_goesOn 293 = .ok (.goto 4, 3) := by decide +kernel
theorem dX8_goesOn_296 : decode cX8_goesOn 296 = .ok (.iconst 1, 1) := by decide +kernel
theorem dX8_goesOn_297 : decode cX8_goesOn 297 = .ok (.putfield 133, 3) := by decide +kernel
theorem dX8_goesOn_300 : decode cX8_goesOn 300 = .ok (.return_, 1) := by decide +kernel
theorem dX8_isName_0 : decode cX8_isName 0 = .ok (.aload_n 0, 1) := by decide +kernel
theorem dX8_isName_1 : decode cX8_isName 1 = .ok (.getfield 133, 3) := by decide +kernel
theorem dX8_isName_4 : decode cX8_isName 4 = .ok (.iconst 2, 1) := by decide +kernel
theorem dX8_isName_5 : decode cX8_isName 5 = .ok (.if_icmp .ne 19, 3) := by decide +kernel
theorem dX8_isName_8 : decode cX8_isName 8 = .ok (.aload_n 0, 1) := by decide +kernel
theorem dX8_isName_9 : decode cX8_isName 9 = .ok (.getfield 123, 3) := by decide +kernel
theorem dX8_isName_12 : decode cX8_isName 12 = .ok (.aload_n 0, 1) := by decide +kernel
theorem dX8_isName_13 : decode cX8_isName 13 = .ok (.getfield 130, 3) := by decide +kernel
theorem dX8_isName_16 : decode cX8_isName 16 = .ok (.isub, 1) := by decide +kernel
theorem dX8_isName_17 : decode cX8_isName 17 = .ok (.aload_n 1, 1) := by decide +kernel
theorem dX8_isName_18 : decode cX8_isName 18 = .ok (.invokevirtual 151, 3) := by decide +kernel
theorem dX8_isName_21 : decode cX8_isName 21 = .ok (.if_icmp .eq 5, 3) := by decide +kernel
theorem dX8_isName_24 : decode cX8_isName 24 = .ok (.iconst 0, 1) := by decide +kernel
theorem dX8_isName_25 : decode cX8_isName 25 = .ok (.ireturn, 1) := by decide +kernel
theorem dX8_isName_26 : decode cX8_isName 26 = .ok (.iconst 0, 1) := by decide +kernel
theorem dX8_isName_27 : decode cX8_isName 27 = .ok (.istore_n 2, 1) := by decide +kernel
theorem dX8_isName_28 : decode cX8_isName 28 = .ok (.iload_n 2, 1) := by decide +kernel
theorem dX8_isName_29 : decode cX8_isName 29 = .ok (.aload_n 1, 1) := by decide +kernel
theorem dX8_isName_30 : decode cX8_isName 30 = .ok (.invokevirtual 151, 3) := by decide +kernel
theorem dX8_isName_33 : decode cX8_isName 33 = .ok (.if_icmp .ge 30, 3) := by decide +kernel
theorem dX8_isName_36 : decode cX8_isName 36 = .ok (.aload_n 0, 1) := by decide +kernel
theorem dX8_isName_37 : decode cX8_isName 37 = .ok (.getfield 15, 3) := by decide +kernel
theorem dX8_isName_40 : decode cX8_isName 40 = .ok (.aload_n 0, 1) := by decide +kernel
theorem dX8_isName_41 : decode cX8_isName 41 = .ok (.getfield 130, 3) := by decide +kernel
theorem dX8_isName_44 : decode cX8_isName 44 = .ok (.iload_n 2, 1) := by decide +kernel
theorem dX8_isName_45 : decode cX8_isName 45 = .ok (.iadd, 1) := by decide +kernel
theorem dX8_isName_46 : decode cX8_isName 46 = .ok (.iaload, 1) := by decide +kernel
theorem dX8_isName_47 : decode cX8_isName 47 = .ok (.aload_n 1, 1) := by decide +kernel
theorem dX8_isName_48 : decode cX8_isName 48 = .ok (.iload_n 2, 1) := by decide +kernel
theorem dX8_isName_49 : decode cX8_isName 49 = .ok (.invokevirtual 157, 3) := by decide +kernel
theorem dX8_isName_52 : decode cX8_isName 52 = .ok (.if_icmp .eq 5, 3) := by decide +kernel
theorem dX8_isName_55 : decode cX8_isName 55 = .ok (.iconst 0, 1) := by decide +kernel
theorem dX8_isName_56 : decode cX8_isName 56 = .ok (.ireturn, 1) := by decide +kernel
theorem dX8_isName_57 : decode cX8_isName 57 = .ok (.iinc 2 1, 3) := by decide +kernel
theorem dX8_isName_60 : decode cX8_isName 60 = .ok (.goto (-32), 3) := by decide +kernel
theorem dX8_isName_63 : decode cX8_isName 63 = .ok (.iconst 1, 1) := by decide +kernel
theorem dX8_isName_64 : decode cX8_isName 64 = .ok (.ireturn, 1) := by decide +kernel
theorem dX8_errs_0 : decode cX8_errs 0 = .ok (.aload_n 0, 1) := by decide +kernel
theorem dX8_errs_1 : decode cX8_errs 1 = .ok (.iload_n 1, 1) := by decide +kernel
theorem dX8_errs_2 : decode cX8_errs 2 = .ok (.putfield 161, 3) := by decide +kernel
theorem dX8_errs_5 : decode cX8_errs 5 = .ok (.aload_n 0, 1) := by decide +kernel
theorem dX8_errs_6 : decode cX8_errs 6 = .ok (.aload_n 0, 1) := by decide +kernel
theorem dX8_errs_7 : decode cX8_errs 7 = .ok (.getfield 130, 3) := by decide +kernel
theorem dX8_errs_10 : decode cX8_errs 10 = .ok (.putfield 164, 3) := by decide +kernel
theorem dX8_errs_13 : decode cX8_errs 13 = .ok (.iconst 0, 1) := by decide +kernel
theorem dX8_errs_14 : decode cX8_errs 14 = .ok (.ireturn, 1) := by decide +kernel
theorem dX8_passes_0 : decode cX8_passes 0 = .ok (.aload_n 0, 1) := by decide +kernel
theorem dX8_passes_1 : decode cX8_passes 1 = .ok (.aload_n 1, 1) := by decide +kernel
theorem dX8_passes_2 : decode cX8_passes 2 = .ok (.invokevirtual 167, 3) := by decide +kernel
theorem dX8_passes_5 : decode cX8_passes 5 = .ok (.ifCond .ne 9, 3) := by decide +kernel
theorem dX8_passes_8 : decode cX8_passes 8 = .ok (.aload_n 0, 1) := by decide +kernel
theorem dX8_passes_9 : decode cX8_passes 9 = .ok (.iconst 1, 1) := by decide +kernel
theorem dX8_passes_10 : decode cX8_passes 10 = .ok (.invokevirtual 171, 3) := by decide +kernel
theorem dX8_passes_13 : decode cX8_passes 13 = .ok (.ireturn, 1) := by decide +kernel
theorem dX8_passes_14 : decode cX8_passes 14 = .ok (.aload_n 0, 1) := by decide +kernel
theorem dX8_passes_15 : decode cX8_passes 15 = .ok (.invokevirtual 175, 3) := by decide +kernel
theorem dX8_passes_18 : decode cX8_passes 18 = .ok (.iconst 1, 1) := by decide +kernel
theorem dX8_passes_19 : decode cX8_passes 19 = .ok (.ireturn, 1) := by decide +kernel
theorem dX8_seesNumber_0 : decode cX8_seesNumber 0 = .ok (.aload_n 0, 1) := by decide +kernel
theorem dX8_seesNumber_1 : decode cX8_seesNumber 1 = .ok (.getfield 133, 3) := by decide +kernel
theorem dX8_seesNumber_4 : decode cX8_seesNumber 4 = .ok (.bipush 45, 2) := by decide +kernel
theorem dX8_seesNumber_6 : decode cX8_seesNumber 6 = .ok (.if_icmp .ne 7, 3) := by decide +kernel
theorem dX8_seesNumber_9 : decode cX8_seesNumber 9 = .ok (.iconst 1, 1) := by decide +kernel
theorem dX8_seesNumber_10 : decode cX8_seesNumber 10 = .ok (.goto 4, 3) := by decide +kernel
theorem dX8_seesNumber_13 : decode cX8_seesNumber 13 = .ok (.iconst 0, 1) := by decide +kernel
theorem dX8_seesNumber_14 : decode cX8_seesNumber 14 = .ok (.istore_n 3, 1) := by decide +kernel
theorem dX8_seesNumber_15 : decode cX8_seesNumber 15 = .ok (.iload_n 3, 1) := by decide +kernel
theorem dX8_seesNumber_16 : decode cX8_seesNumber 16 = .ok (.ifCond .eq 7, 3) := by decide +kernel
theorem dX8_seesNumber_19 : decode cX8_seesNumber 19 = .ok (.aload_n 0, 1) := by decide +kernel
theorem dX8_seesNumber_20 : decode cX8_seesNumber 20 = .ok (.invokevirtual 175, 3) := by decide +kernel
theorem dX8_seesNumber_23 : decode cX8_seesNumber 23 = .ok (.aload_n 0, 1) := by decide +kernel
theorem dX8_seesNumber_24 : decode cX8_seesNumber 24 = .ok (.getfield 133, 3) := by decide +kernel
theorem dX8_seesNumber_27 : decode cX8_seesNumber 27 = .ok (.iconst 3, 1) := by decide +kernel
theorem dX8_seesNumber_28 : decode cX8_seesNumber 28 = .ok (.if_icmp .eq 9, 3) := by decide +kernel
theorem dX8_seesNumber_31 : decode cX8_seesNumber 31 = .ok (.aload_n 0, 1) := by decide +kernel
theorem dX8_seesNumber_32 : decode cX8_seesNumber 32 = .ok (.iconst 1, 1) := by decide +kernel
theorem dX8_seesNumber_33 : decode cX8_seesNumber 33 = .ok (.invokevirtual 171, 3) := by decide +kernel
theorem dX8_seesNumber_36 : decode cX8_seesNumber 36 = .ok (.ireturn, 1) := by decide +kernel
theorem dX8_seesNumber_37 : decode cX8_seesNumber 37 = .ok (.aload_n 0, 1) := by decide +kernel
theorem dX8_seesNumber_38 : decode cX8_seesNumber 38 = .ok (.iload_n 3, 1) := by decide +kernel
theorem dX8_seesNumber_39 : decode cX8_seesNumber 39 = .ok (.ifCond .eq 11, 3) := by decide +kernel
theorem dX8_seesNumber_42 : decode cX8_seesNumber 42 = .ok (.aload_n 0, 1) := by decide +kernel
theorem dX8_seesNumber_43 : decode cX8_seesNumber 43 = .ok (.getfield 148, 3) := by decide +kernel
theorem dX8_seesNumber_46 : decode cX8_seesNumber 46 = .ok (.ineg, 1) := by decide +kernel
theorem dX8_seesNumber_47 : decode cX8_seesNumber 47 = .ok (.goto 7, 3) := by decide +kernel
theorem dX8_seesNumber_50 : decode cX8_seesNumber 50 = .ok (.aload_n 0, 1) := by decide +kernel
theorem dX8_seesNumber_51 : decode cX8_seesNumber 51 = .ok (.getfield 148, 3) := by decide +kernel
theorem dX8_seesNumber_54 : decode cX8_seesNumber 54 = .ok (.putfield 178, 3) := by decide +kernel
theorem dX8_seesNumber_57 : decode cX8_seesNumber 57 = .ok (.aload_n 0, 1) := by decide +kernel
theorem dX8_seesNumber_58 : decode cX8_seesNumber 58 = .ok (.getfield 178, 3) := by decide +kernel
theorem dX8_seesNumber_61 : decode cX8_seesNumber 61 = .ok (.i2l, 1) := by decide +kernel
theorem dX8_seesNumber_62 : decode cX8_seesNumber 62 = .ok (.iload_n 1, 1) := by decide +kernel
theorem dX8_seesNumber_63 : decode cX8_seesNumber 63 = .ok (.i2l, 1) := by decide +kernel
theorem dX8_seesNumber_64 : decode cX8_seesNumber 64 = .ok (.iload_n 2, 1) := by decide +kernel
theorem dX8_seesNumber_65 : decode cX8_seesNumber 65 = .ok (.i2l, 1) := by decide +kernel
theorem dX8_seesNumber_66 : decode cX8_seesNumber 66 = .ok (.invokestatic 140, 3) := by decide +kernel
theorem dX8_seesNumber_69 : decode cX8_seesNumber 69 = .ok (.ifCond .ne 11, 3) := by decide +kernel
theorem dX8_seesNumber_72 : decode cX8_seesNumber 72 = .ok (.aload_n 0, 1) := by decide +kernel
theorem dX8_seesNumber_73 : decode cX8_seesNumber 73 = .ok (.iconst 2, 1) := by decide +kernel
theorem dX8_seesNumber_74 : decode cX8_seesNumber 74 = .ok (.invokevirtual 171, 3) := by decide +kernel
theorem dX8_seesNumber_77 : decode cX8_seesNumber 77 = .ok (.ifCond .eq 7, 3) := by decide +kernel
theorem dX8_seesNumber_80 : decode cX8_seesNumber 80 = .ok (.iconst 1, 1) := by decide +kernel
theorem dX8_seesNumber_81 : decode cX8_seesNumber 81 = .ok (.goto 4, 3) := by decide +kernel
theorem dX8_seesNumber_84 : decode cX8_seesNumber 84 = .ok (.iconst 0, 1) := by decide +kernel
theorem dX8_seesNumber_85 : decode cX8_seesNumber 85 = .ok (.ireturn, 1) := by decide +kernel
theorem dX8_isKept_0 : decode cX8_isKept 0 = .ok (.aload_n 0, 1) := by decide +kernel
theorem dX8_isKept_1 : decode cX8_isKept 1 = .ok (.ldc 181, 2) := by decide +kernel
theorem dX8_isKept_3 : decode cX8_isKept 3 = .ok (.invokevirtual 167, 3) := by decide +kernel
theorem dX8_isKept_6 : decode cX8_isKept 6 = .ok (.ifCond .ne 66, 3) := by decide +kernel
theorem dX8_isKept_9 : decode cX8_isKept 9 = .ok (.aload_n 0, 1) := by decide +kernel
theorem dX8_isKept_10 : decode cX8_isKept 10 = .ok (.ldc 183, 2) := by decide +kernel
theorem dX8_isKept_12 : decode cX8_isKept 12 = .ok (.invokevirtual 167, 3) := by decide +kernel
theorem dX8_isKept_15 : decode cX8_isKept 15 = .ok (.ifCond .ne 57, 3) := by decide +kernel
theorem dX8_isKept_18 : decode cX8_isKept 18 = .ok (.aload_n 0, 1) := by decide +kernel
theorem dX8_isKept_19 : decode cX8_isKept 19 = .ok (.ldc 184, 2) := by decide +kernel
theorem dX8_isKept_21 : decode cX8_isKept 21 = .ok (.invokevirtual 167, 3) := by decide +kernel
theorem dX8_isKept_24 : decode cX8_isKept 24 = .ok (.ifCond .ne 48, 3) := by decide +kernel
theorem dX8_isKept_27 : decode cX8_isKept 27 = .ok (.aload_n 0, 1) := by decide +kernel
theorem dX8_isKept_28 : decode cX8_isKept 28 = .ok (.ldc 185, 2) := by decide +kernel
theorem dX8_isKept_30 : decode cX8_isKept 30 = .ok (.invokevirtual 167, 3) := by decide +kernel
theorem dX8_isKept_33 : decode cX8_isKept 33 = .ok (.ifCond .ne 39, 3) := by decide +kernel
theorem dX8_isKept_36 : decode cX8_isKept 36 = .ok (.aload_n 0, 1) := by decide +kernel
theorem dX8_isKept_37 : decode cX8_isKept 37 = .ok (.ldc 187, 2) := by decide +kernel
theorem dX8_isKept_39 : decode cX8_isKept 39 = .ok (.invokevirtual 167, 3) := by decide +kernel
theorem dX8_isKept_42 : decode cX8_isKept 42 = .ok (.ifCond .ne 30, 3) := by decide +kernel
theorem dX8_isKept_45 : decode cX8_isKept 45 = .ok (.aload_n 0, 1) := by decide +kernel
theorem dX8_isKept_46 : decode cX8_isKept 46 = .ok (.ldc 189, 2) := by decide +kernel
theorem dX8_isKept_48 : decode cX8_isKept 48 = .ok (.invokevirtual 167, 3) := by decide +kernel
theorem dX8_isKept_51 : decode cX8_isKept 51 = .ok (.ifCond .ne 21, 3) := by decide +kernel
theorem dX8_isKept_54 : decode cX8_isKept 54 = .ok (.aload_n 0, 1) := by decide +kernel
theorem dX8_isKept_55 : decode cX8_isKept 55 = .ok (.ldc 191, 2) := by decide +kernel
theorem dX8_isKept_57 : decode cX8_isKept 57 = .ok (.invokevirtual 167, 3) := by decide +kernel
theorem dX8_isKept_60 : decode cX8_isKept 60 = .ok (.ifCond .ne 12, 3) := by decide +kernel
theorem dX8_isKept_63 : decode cX8_isKept 63 = .ok (.aload_n 0, 1) := by decide +kernel
theorem dX8_isKept_64 : decode cX8_isKept 64 = .ok (.ldc 193, 2) := by decide +kernel
theorem dX8_isKept_66 : decode cX8_isKept 66 = .ok (.invokevirtual 167, 3) := by decide +kernel
theorem dX8_isKept_69 : decode cX8_isKept 69 = .ok (.ifCond .eq 7, 3) := by decide +kernel
theorem dX8_isKept_72 : decode cX8_isKept 72 = .ok (.iconst 1, 1) := by decide +kernel
theorem dX8_isKept_73 : decode cX8_isKept 73 = .ok (.goto 4, 3) := by decide +kernel
theorem dX8_isKept_76 : decode cX8_isKept 76 = .ok (.iconst 0, 1) := by decide +kernel
theorem dX8_isKept_77 : decode cX8_isKept 77 = .ok (.ireturn, 1) := by decide +kernel
theorem dX8_isNameHere_0 : decode cX8_isNameHere 0 = .ok (.aload_n 0, 1) := by decide +kernel
theorem dX8_isNameHere_1 : decode cX8_isNameHere 1 = .ok (.getfield 133, 3) := by decide +kernel
theorem dX8_isNameHere_4 : decode cX8_isNameHere 4 = .ok (.iconst 2, 1) := by decide +kernel
theorem dX8_isNameHere_5 : decode cX8_isNameHere 5 = .ok (.if_icmp .ne 14, 3) := by decide +kernel
theorem dX8_isNameHere_8 : decode cX8_isNameHere 8 = .ok (.aload_n 0, 1) := by decide +kernel
theorem dX8_isNameHere_9 : decode cX8_isNameHere 9 = .ok (.invokevirtual 195, 3) := by decide +kernel
theorem dX8_isNameHere_12 : decode cX8_isNameHere 12 = .ok (.ifCond .ne 7, 3) := by decide +kernel
theorem dX8_isNameHere_15 : decode cX8_isNameHere 15 = .ok (.iconst 1, 1) := by decide +kernel
theorem dX8_isNameHere_16 : decode cX8_isNameHere 16 = .ok (.goto 4, 3) := by decide +kernel
theorem dX8_isNameHere_19 : decode cX8_isNameHere 19 = .ok (.iconst 0, 1) := by decide +kernel
theorem dX8_isNameHere_20 : decode cX8_isNameHere 20 = .ok (.ireturn, 1) := by decide +kernel
theorem dX8_toldAt_0 : decode cX8_toldAt 0 = .ok (.iconst 0, 1) := by decide +kernel
theorem dX8_toldAt_1 : decode cX8_toldAt 1 = .ok (.istore_n 1, 1) := by decide +kernel
theorem dX8_toldAt_2 : decode cX8_toldAt 2 = .ok (.iload_n 1, 1) := by decide +kernel
theorem dX8_toldAt_3 : decode cX8_toldAt 3 = .ok (.aload_n 0, 1) := by decide +kernel
theorem dX8_toldAt_4 : decode cX8_toldAt 4 = .ok (.getfield 199, 3) := by decide +kernel
theorem dX8_toldAt_7 : decode cX8_toldAt 7 = .ok (.if_icmp .ge 94, 3) := by decide +kernel
theorem dX8_toldAt_10 : decode cX8_toldAt 10 = .ok (.aload_n 0, 1) := by decide +kernel
theorem dX8_toldAt_11 : decode cX8_toldAt 11 = .ok (.getfield 43, 3) := by decide +kernel
theorem dX8_toldAt_14 : decode cX8_toldAt 14 = .ok (.iload_n 1, 1) := by decide +kernel
theorem dX8_toldAt_15 : decode cX8_toldAt 15 = .ok (.iaload, 1) := by decide +kernel
theorem dX8_toldAt_16 : decode cX8_toldAt 16 = .ok (.aload_n 0, 1) := by decide +kernel
theorem dX8_toldAt_17 : decode cX8_toldAt 17 = .ok (.getfield 123, 3) := by decide +kernel
theorem dX8_toldAt_20 : decode cX8_toldAt 20 = .ok (.aload_n 0, 1) := by decide +kernel
theorem dX8_toldAt_21 : decode cX8_toldAt 21 = .ok (.getfield 130, 3) := by decide +kernel
theorem dX8_toldAt_24 : decode cX8_toldAt 24 = .ok (.isub, 1) := by decide +kernel
theorem dX8_toldAt_25 : decode cX8_toldAt 25 = .ok (.if_icmp .ne 7, 3) := by decide +kernel
theorem dX8_toldAt_28 : decode cX8_toldAt 28 = .ok (.iconst 1, 1) := by decide +kernel
theorem dX8_toldAt_29 : decode cX8_toldAt 29 = .ok (.goto 4, 3) := by decide +kernel
theorem dX8_toldAt_32 : decode cX8_toldAt 32 = .ok (.iconst 0, 1) := by decide +kernel
theorem dX8_toldAt_33 : decode cX8_toldAt 33 = .ok (.istore_n 2, 1) := by decide +kernel
theorem dX8_toldAt_34 : decode cX8_toldAt 34 = .ok (.iconst 0, 1) := by decide +kernel
theorem dX8_toldAt_35 : decode cX8_toldAt 35 = .ok (.istore_n 3, 1) := by decide +kernel
theorem dX8_toldAt_36 : decode cX8_toldAt 36 = .ok (.iload_n 3, 1) := by decide +kernel
theorem dX8_toldAt_37 : decode cX8_toldAt 37 = .ok (.aload_n 0, 1) := by decide +kernel
theorem dX8_toldAt_38 : decode cX8_toldAt 38 = .ok (.getfield 43, 3) := by decide +kernel
theorem dX8_toldAt_41 : decode cX8_toldAt 41 = .ok (.iload_n 1, 1) := by decide +kernel
theorem dX8_toldAt_42 : decode cX8_toldAt 42 = .ok (.iaload, 1) := by decide +kernel
theorem dX8_toldAt_43 : decode cX8_toldAt 43 = .ok (.if_icmp .ge 46, 3) := by decide +kernel
theorem dX8_toldAt_46 : decode cX8_toldAt 46 = .ok (.iload_n 2, 1) := by decide +kernel
theorem dX8_toldAt_47 : decode cX8_toldAt 47 = .ok (.ifCond .eq 42, 3) := by decide +kernel
theorem dX8_toldAt_50 : decode cX8_toldAt 50 = .ok (.aload_n 0, 1) := by decide +kernel
theorem dX8_toldAt_51 : decode cX8_toldAt 51 = .ok (.getfield 15, 3) := by decide +kernel
theorem dX8_toldAt_54 : decode cX8_toldAt 54 = .ok (.aload_n 0, 1) := by decide +kernel
theorem dX8_toldAt_55 : decode cX8_toldAt 55 = .ok (.getfield 40, 3) := by decide +kernel
theorem dX8_toldAt_58 : decode cX8_toldAt 58 = .ok (.iload_n 1, 1) := by decide +kernel
theorem dX8_toldAt_59 : decode cX8_toldAt 59 = .ok (.iaload, 1) := by decide +kernel
theorem dX8_toldAt_60 : decode cX8_toldAt 60 = .ok (.iload_n 3, 1) := by decide +kernel
theorem dX8_toldAt_61 : decode cX8_toldAt 61 = .ok (.iadd, 1) := by decide +kernel
theorem dX8_toldAt_62 : decode cX8_toldAt 62 = .ok (.iaload, 1) := by decide +kernel
theorem dX8_toldAt_63 : decode cX8_toldAt 63 = .ok (.aload_n 0, 1) := by decide +kernel
theorem dX8_toldAt_64 : decode cX8_toldAt 64 = .ok (.getfield 15, 3) := by decide +kernel
theorem dX8_toldAt_67 : decode cX8_toldAt 67 = .ok (.aload_n 0, 1) := by decide +kernel
theorem dX8_toldAt_68 : decode cX8_toldAt 68 = .ok (.getfield 130, 3) := by decide +kernel
theorem dX8_toldAt_71 : decode cX8_toldAt 71 = .ok (.iload_n 3, 1) := by decide +kernel
theorem dX8_toldAt_72 : decode cX8_toldAt 72 = .ok (.iadd, 1) := by decide +kernel
theorem dX8_toldAt_73 : decode cX8_toldAt 73 = .ok (.iaload, 1) := by decide +kernel
theorem dX8_toldAt_74 : decode cX8_toldAt 74 = .ok (.if_icmp .ne 7, 3) := by decide +kernel
theorem dX8_toldAt_77 : decode cX8_toldAt 77 = .ok (.iconst 1, 1) := by decide +kernel
theorem dX8_toldAt_78 : decode cX8_toldAt 78 = .ok (.goto 4, 3) := by decide +kernel
theorem dX8_toldAt_81 : decode cX8_toldAt 81 = .ok (.iconst 0, 1) := by decide +kernel
theorem dX8_toldAt_82 : decode cX8_toldAt 82 = .ok (.istore_n 2, 1) := by decide +kernel
theorem dX8_toldAt_83 : decode cX8_toldAt 83 = .ok (.iinc 3 1, 3) := by decide +kernel
theorem dX8_toldAt_86 : decode cX8_toldAt 86 = .ok (.goto (-50), 3) := by decide +kernel
theorem dX8_toldAt_89 : decode cX8_toldAt 89 = .ok (.iload_n 2, 1) := by decide +kernel
theorem dX8_toldAt_90 : decode cX8_toldAt 90 = .ok (.ifCond .eq 5, 3) := by decide +kernel
theorem dX8_toldAt_93 : decode cX8_toldAt 93 = .ok (.iload_n 1, 1) := by decide +kernel
theorem dX8_toldAt_94 : decode cX8_toldAt 94 = .ok (.ireturn, 1) := by decide +kernel
theorem dX8_toldAt_95 : decode cX8_toldAt 95 = .ok (.iinc 1 1, 3) := by decide +kernel
theorem dX8_toldAt_98 : decode cX8_toldAt 98 = .ok (.goto (-96), 3) := by decide +kernel
theorem dX8_toldAt_101 : decode cX8_toldAt 101 = .ok (.iconst (-1), 1) := by decide +kernel
theorem dX8_toldAt_102 : decode cX8_toldAt 102 = .ok (.ireturn, 1) := by decide +kernel
theorem dX8_readName_0 : decode cX8_readName 0 = .ok (.aload_n 0, 1) := by decide +kernel
theorem dX8_readName_1 : decode cX8_readName 1 = .ok (.invokevirtual 202, 3) := by decide +kernel
theorem dX8_readName_4 : decode cX8_readName 4 = .ok (.ifCond .ne 9, 3) := by decide +kernel
theorem dX8_readName_7 : decode cX8_readName 7 = .ok (.aload_n 0, 1) := by decide +kernel
theorem dX8_readName_8 : decode cX8_readName 8 = .ok (.iconst 1, 1) := by decide +kernel
theorem dX8_readName_9 : decode cX8_readName 9 = .ok (.invokevirtual 171, 3) := by decide +kernel
theorem dX8_readName_12 : decode cX8_readName 12 = .ok (.ireturn, 1) := by decide +kernel
theorem dX8_readName_13 : decode cX8_readName 13 = .ok (.aload_n 0, 1) := by decide +kernel
theorem dX8_readName_14 : decode cX8_readName 14 = .ok (.invokevirtual 205, 3) := by decide +kernel
theorem dX8_readName_17 : decode cX8_readName 17 = .ok (.iconst (-1), 1) := by decide +kernel
theorem dX8_readName_18 : decode cX8_readName 18 = .ok (.if_icmp .eq 9, 3) := by decide +kernel
theorem dX8_readName_21 : decode cX8_readName 21 = .ok (.aload_n 0, 1) := by decide +kernel
theorem dX8_readName_22 : decode cX8_readName 22 = .ok (.iconst 3, 1) := by decide +kernel
theorem dX8_readName_23 : decode cX8_readName 23 = .ok (.invokevirtual 171, 3) := by decide +kernel
theorem dX8_readName_26 : decode cX8_readName 26 = .ok (.ireturn, 1) := by decide +kernel
theorem dX8_readName_27 : decode cX8_readName 27 = .ok (.aload_n 0, 1) := by decide +kernel
theorem dX8_readName_28 : decode cX8_readName 28 = .ok (.getfield 40, 3) := by decide +kernel
theorem dX8_readName_31 : decode cX8_readName 31 = .ok (.aload_n 0, 1) := by decide +kernel
theorem dX8_readName_32 : decode cX8_readName 32 = .ok (.getfield 199, 3) := by decide +kernel
theorem dX8_readName_35 : decode cX8_readName 35 = .ok (.aload_n 0, 1) := by decide +kernel
theorem dX8_readName_36 : decode cX8_readName 36 = .ok (.getfield 130, 3) := by decide +kernel
theorem dX8_readName_39 : decode cX8_readName 39 = .ok (.iastore, 1) := by decide +kernel
theorem dX8_readName_40 : decode cX8_readName 40 = .ok (.aload_n 0, 1) := by decide +kernel
theorem dX8_readName_41 : decode cX8_readName 41 = .ok (.getfield 43, 3) := by decide +kernel
theorem dX8_readName_44 : decode cX8_readName 44 = .ok (.aload_n 0, 1) := by decide +kernel
theorem dX8_readName_45 : decode cX8_readName 45 = .ok (.getfield 199, 3) := by decide +kernel
theorem dX8_readName_48 : decode cX8_readName 48 = .ok (.aload_n 0, 1) := by decide +kernel
theorem dX8_readName_49 : decode cX8_readName 49 = .ok (.getfield 123, 3) := by decide +kernel
theorem dX8_readName_52 : decode cX8_readName 52 = .ok (.aload_n 0, 1) := by decide +kernel
theorem dX8_readName_53 : decode cX8_readName 53 = .ok (.getfield 130, 3) := by decide +kernel
theorem dX8_readName_56 : decode cX8_readName 56 = .ok (.isub, 1) := by decide +kernel
theorem dX8_readName_57 : decode cX8_readName 57 = .ok (.iastore, 1) := by decide +kernel
theorem dX8_readName_58 : decode cX8_readName 58 = .ok (.aload_n 0, 1) := by decide +kernel
theorem dX8_readName_59 : decode cX8_readName 59 = .ok (.invokevirtual 175, 3) := by decide +kernel
theorem dX8_readName_62 : decode cX8_readName 62 = .ok (.iconst 1, 1) := by decide +kernel
theorem dX8_readName_63 : decode cX8_readName 63 = .ok (.ireturn, 1) := by decide +kernel
theorem dX8_readInput_0 : decode cX8_readInput 0 = .ok (.aload_n 0, 1) := by decide +kernel
theorem dX8_readInput_1 : decode cX8_readInput 1 = .ok (.getfield 208, 3) := by decide +kernel
theorem dX8_readInput_4 : decode cX8_readInput 4 = .ok (.iconst 3, 1) := by decide +kernel
theorem dX8_readInput_5 : decode cX8_readInput 5 = .ok (.if_icmp .ne 9, 3) := by decide +kernel
theorem dX8_readInput_8 : decode cX8_readInput 8 = .ok (.aload_n 0, 1) := by decide +kernel
theorem dX8_readInput_9 : decode cX8_readInput 9 = .ok (.iconst 4, 1) := by decide +kernel
theorem dX8_readInput_10 : decode cX8_readInput 10 = .ok (.invokevirtual 171, 3) := by decide +kernel
theorem dX8_readInput_13 : decode cX8_readInput 13 = .ok (.ireturn, 1) := by decide +kernel
theorem dX8_readInput_14 : decode cX8_readInput 14 = .ok (.aload_n 0, 1) := by decide +kernel
theorem dX8_readInput_15 : decode cX8_readInput 15 = .ok (.invokevirtual 175, 3) := by decide +kernel
theorem dX8_readInput_18 : decode cX8_readInput 18 = .ok (.aload_n 0, 1) := by decide +kernel
theorem dX8_readInput_19 : decode cX8_readInput 19 = .ok (.invokevirtual 211, 3) := by decide +kernel
theorem dX8_readInput_22 : decode cX8_readInput 22 = .ok (.ifCond .eq 25, 3) := by decide +kernel
theorem dX8_readInput_25 : decode cX8_readInput 25 = .ok (.aload_n 0, 1) := by decide +kernel
theorem dX8_readInput_26 : decode cX8_readInput 26 = .ok (.ldc 183, 2) := by decide +kernel
theorem dX8_readInput_28 : decode cX8_readInput 28 = .ok (.invokevirtual 214, 3) := by decide +kernel
theorem dX8_readInput_31 : decode cX8_readInput 31 = .ok (.ifCond .eq 16, 3) := by decide +kernel
theorem dX8_readInput_34 : decode cX8_readInput 34 = .ok (.aload_n 0, 1) := by decide +kernel
theorem dX8_readInput_35 : decode cX8_readInput 35 = .ok (.sipush (-1000), 3) := by decide +kernel
theorem dX8_readInput_38 : decode cX8_readInput 38 = .ok (.sipush 1000, 3) := by decide +kernel
theorem dX8_readInput_41 : decode cX8_readInput 41 = .ok (.invokevirtual 217, 3) := by decide +kernel
theorem dX8_readInput_44 : decode cX8_readInput 44 = .ok (.ifCond .ne 5, 3) := by decide +kernel
theorem dX8_readInput_47 : decode cX8_readInput 47 = .ok (.iconst 0, 1) := by decide +kernel
theorem dX8_readInput_48 : decode cX8_readInput 48 = .ok (.ireturn, 1) := by decide +kernel
theorem dX8_readInput_49 : decode cX8_readInput 49 = .ok (.aload_n 0, 1) := by decide +kernel
theorem dX8_readInput_50 : decode cX8_readInput 50 = .ok (.getfield 178, 3) := by decide +kernel
theorem dX8_readInput_53 : decode cX8_readInput 53 = .ok (.istore_n 1, 1) := by decide +kernel
theorem dX8_readInput_54 : decode cX8_readInput 54 = .ok (.aload_n 0, 1) := by decide +kernel
theorem dX8_readInput_55 : decode cX8_readInput 55 = .ok (.invokevirtual 175, 3) := by decide +kernel
theorem dX8_readInput_58 : decode cX8_readInput 58 = .ok (.aload_n 0, 1) := by decide +kernel
theorem dX8_readInput_59 : decode cX8_readInput 59 = .ok (.ldc 184, 2) := by decide +kernel
theorem dX8_readInput_61 : decode cX8_readInput 61 = .ok (.invokevirtual 214, 3) := by decide +kernel
theorem dX8_readInput_64 : decode cX8_readInput 64 = .ok (.ifCond .eq 14, 3) := by decide +kernel
theorem dX8_readInput_67 : decode cX8_readInput 67 = .ok (.aload_n 0, 1) := by decide +kernel
theorem dX8_readInput_68 : decode cX8_readInput 68 = .ok (.iload_n 1, 1) := by decide +kernel
theorem dX8_readInput_69 : decode cX8_readInput 69 = .ok (.sipush 1000, 3) := by decide +kernel
theorem dX8_readInput_72 : decode cX8_readInput 72 = .ok (.invokevirtual 217, 3) := by decide +kernel
theorem dX8_readInput_75 : decode cX8_readInput 75 = .ok (.ifCond .ne 5, 3) := by decide +kernel
theorem dX8_readInput_78 : decode cX8_readInput 78 = .ok (.iconst 0, 1) := by decide +kernel
theorem dX8_readInput_79 : decode cX8_readInput 79 = .ok (.ireturn, 1) := by decide +kernel
theorem dX8_readInput_80 : decode cX8_readInput 80 = .ok (.aload_n 0, 1) := by decide +kernel
theorem dX8_readInput_81 : decode cX8_readInput 81 = .ok (.getfield 178, 3) := by decide +kernel
theorem dX8_readInput_84 : decode cX8_readInput 84 = .ok (.iload_n 1, 1) := by decide +kernel
theorem dX8_readInput_85 : decode cX8_readInput 85 = .ok (.isub, 1) := by decide +kernel
theorem dX8_readInput_86 : decode cX8_readInput 86 = .ok (.iconst 2, 1) := by decide +kernel
theorem dX8_readInput_87 : decode cX8_readInput 87 = .ok (.irem, 1) := by decide +kernel
theorem dX8_readInput_88 : decode cX8_readInput 88 = .ok (.ifCond .eq 9, 3) := by decide +kernel
theorem dX8_readInput_91 : decode cX8_readInput 91 = .ok (.aload_n 0, 1) := by decide +kernel
theorem dX8_readInput_92 : decode cX8_readInput 92 = .ok (.iconst 2, 1) := by decide +kernel
theorem dX8_readInput_93 : decode cX8_readInput 93 = .ok (.invokevirtual 171, 3) := by decide +kernel
theorem dX8_readInput_96 : decode cX8_readInput 96 = .ok (.ireturn, 1) := by decide +kernel
theorem dX8_readInput_97 : decode cX8_readInput 97 = .ok (.bipush 15, 2) := by decide +kernel
theorem dX8_readInput_99 : decode cX8_readInput 99 = .ok (.aload_n 0, 1) := by decide +kernel
theorem dX8_readInput_100 : decode cX8_readInput 100 = .ok (.getfield 199, 3) := by decide +kernel
theorem dX8_readInput_103 : decode cX8_readInput 103 = .ok (.iadd, 1) := by decide +kernel
theorem dX8_readInput_104 : decode cX8_readInput 104 = .ok (.istore_n 2, 1) := by decide +kernel
theorem dX8_readInput_105 : decode cX8_readInput 105 = .ok (.aload_n 0, 1) := by decide +kernel
theorem dX8_readInput_106 : decode cX8_readInput 106 = .ok (.getfield 19, 3) := by decide +kernel
theorem dX8_readInput_109 : decode cX8_readInput 109 = .ok (.iload_n 2, 1) := by decide +kernel
theorem dX8_readInput_110 : decode cX8_readInput 110 = .ok (.bipush (-2), 2) := by decide +kernel
theorem dX8_readInput_112 : decode cX8_readInput 112 = .ok (.iastore, 1) := by decide +kernel
theorem dX8_readInput_113 : decode cX8_readInput 113 = .ok (.aload_n 0, 1) := by decide +kernel
theorem dX8_readInput_114 : decode cX8_readInput 114 = .ok (.getfield 22, 3) := by decide +kernel
theorem dX8_readInput_117 : decode cX8_readInput 117 = .ok (.iload_n 2, 1) := by decide +kernel
theorem dX8_readInput_118 : decode cX8_readInput 118 = .ok (.iconst 0, 1) := by decide +kernel
theorem dX8_readInput_119 : decode cX8_readInput 119 = .ok (.iastore, 1) := by decide +kernel
theorem dX8_readInput_120 : decode cX8_readInput 120 = .ok (.aload_n 0, 1) := by decide +kernel
theorem dX8_readInput_121 : decode cX8_readInput 121 = .ok (.getfield 25, 3) := by decide +kernel
theorem dX8_readInput_124 : decode cX8_readInput 124 = .ok (.iload_n 2, 1) := by decide +kernel
theorem dX8_readInput_125 : decode cX8_readInput 125 = .ok (.iload_n 1, 1) := by decide +kernel
theorem dX8_readInput_126 : decode cX8_readInput 126 = .ok (.iastore, 1) := by decide +kernel
theorem dX8_readInput_127 : decode cX8_readInput 127 = .ok (.aload_n 0, 1) := by decide +kernel
theorem dX8_readInput_128 : decode cX8_readInput 128 = .ok (.getfield 28, 3) := by decide +kernel
theorem dX8_readInput_131 : decode cX8_readInput 131 = .ok (.iload_n 2, 1) := by decide +kernel
theorem dX8_readInput_132 : decode cX8_readInput 132 = .ok (.aload_n 0, 1) := by decide +kernel
theorem dX8_readInput_133 : decode cX8_readInput 133 = .ok (.getfield 178, 3) := by decide +kernel
theorem dX8_readInput_136 : decode cX8_readInput 136 = .ok (.iastore, 1) := by decide +kernel
theorem dX8_readInput_137 : decode cX8_readInput 137 = .ok (.aload_n 0, 1) := by decide +kernel
theorem dX8_readInput_138 : decode cX8_readInput 138 = .ok (.invokevirtual 175, 3) := by decide +kernel
theorem dX8_readInput_141 : decode cX8_readInput 141 = .ok (.aload_n 0, 1) := by decide +kernel
theorem dX8_readInput_142 : decode cX8_readInput 142 = .ok (.dup, 1) := by decide +kernel
theorem dX8_readInput_143 : decode cX8_readInput 143 = .ok (.getfield 199, 3) := by decide +kernel
theorem dX8_readInput_146 : decode cX8_readInput 146 = .ok (.iconst 1, 1) := by decide +kernel
theorem dX8_readInput_147 : decode cX8_readInput 147 = .ok (.iadd, 1) := by decide +kernel
theorem dX8_readInput_148 : decode cX8_readInput 148 = .ok (.putfield 199, 3) := by decide +kernel
theorem dX8_readInput_151 : decode cX8_readInput 151 = .ok (.aload_n 0, 1) := by decide +kernel
theorem dX8_readInput_152 : decode cX8_readInput 152 = .ok (.dup, 1) := by decide +kernel
theorem dX8_readInput_153 : decode cX8_readInput 153 = .ok (.getfield 208, 3) := by decide +kernel
theorem dX8_readInput_156 : decode cX8_readInput 156 = .ok (.iconst 1, 1) := by decide +kernel
theorem dX8_readInput_157 : decode cX8_readInput 157 = .ok (.iadd, 1) := by decide +kernel
theorem dX8_readInput_158 : decode cX8_readInput 158 = .ok (.putfield 208, 3) := by decide +kernel
theorem dX8_readInput_161 : decode cX8_readInput 161 = .ok (.iconst 1, 1) := by decide +kernel
theorem dX8_readInput_162 : decode cX8_readInput 162 = .ok (.ireturn, 1) := by decide +kernel
theorem dX8_readOperand_0 : decode cX8_readOperand 0 = .ok (.iconst 4, 1) := by decide +kernel
theorem dX8_readOperand_1 : decode cX8_readOperand 1 = .ok (.bipush 15, 2) := by decide +kernel
theorem dX8_readOperand_3 : decode cX8_readOperand 3 = .ok (.aload_n 0, 1) := by decide +kernel
theorem dX8_readOperand_4 : decode cX8_readOperand 4 = .ok (.getfield 199, 3) := by decide +kernel
theorem dX8_readOperand_7 : decode cX8_readOperand 7 = .ok (.iadd, 1) := by decide +kernel
theorem dX8_readOperand_8 : decode cX8_readOperand 8 = .ok (.imul, 1) := by decide +kernel
theorem dX8_readOperand_9 : decode cX8_readOperand 9 = .ok (.iload_n 1, 1) := by decide +kernel
theorem dX8_readOperand_10 : decode cX8_readOperand 10 = .ok (.iadd, 1) := by decide +kernel
theorem dX8_readOperand_11 : decode cX8_readOperand 11 = .ok (.istore_n 2, 1) := by decide +kernel
theorem dX8_readOperand_12 : decode cX8_readOperand 12 = .ok (.aload_n 0, 1) := by decide +kernel
theorem dX8_readOperand_13 : decode cX8_readOperand 13 = .ok (.invokevirtual 202, 3) := by decide +kernel
theorem dX8_readOperand_16 : decode cX8_readOperand 16 = .ok (.ifCond .eq 39, 3) := by decide +kernel
theorem dX8_readOperand_19 : decode cX8_readOperand 19 = .ok (.aload_n 0, 1) := by decide +kernel
theorem dX8_readOperand_20 : decode cX8_readOperand 20 = .ok (.invokevirtual 205, 3) := by decide +kernel
theorem dX8_readOperand_23 : decode cX8_readOperand 23 = .ok (.istore_n 3, 1) := by decide +kernel
theorem dX8_readOperand_24 : decode cX8_readOperand 24 = .ok (.iload_n 3, 1) := by decide +kernel
theorem dX8_readOperand_25 : decode cX8_readOperand 25 = .ok (.iconst (-1), 1) := by decide +kernel
theorem dX8_readOperand_26 : decode cX8_readOperand 26 = .ok (.if_icmp .ne 9, 3) := by decide +kernel
theorem dX8_readOperand_29 : decode cX8_readOperand 29 = .ok (.aload_n 0, 1) := by decide +kernel
theorem dX8_readOperand_30 : decode cX8_readOperand 30 = .ok (.iconst 3, 1) := by decide +kernel
theorem dX8_readOperand_31 : decode cX8_readOperand 31 = .ok (.invokevirtual 171, 3) := by decide +kernel
theorem dX8_readOperand_34 : decode cX8_readOperand 34 = .ok (.ireturn, 1) := by decide +kernel
theorem dX8_readOperand_35 : decode cX8_readOperand 35 = .ok (.aload_n 0, 1) := by decide +kernel
theorem dX8_readOperand_36 : decode cX8_readOperand 36 = .ok (.getfield 31, 3) := by decide +kernel
theorem dX8_readOperand_39 : decode cX8_readOperand 39 = .ok (.iload_n 2, 1) := by decide +kernel
theorem dX8_readOperand_40 : decode cX8_readOperand 40 = .ok (.iload_n 3, 1) := by decide +kernel
theorem dX8_readOperand_41 : decode cX8_readOperand 41 = .ok (.iastore, 1) := by decide +kernel
theorem dX8_readOperand_42 : decode cX8_readOperand 42 = .ok (.aload_n 0, 1) := by decide +kernel
theorem dX8_readOperand_43 : decode cX8_readOperand 43 = .ok (.getfield 34, 3) := by decide +kernel
theorem dX8_readOperand_46 : decode cX8_readOperand 46 = .ok (.iload_n 2, 1) := by decide +kernel
theorem dX8_readOperand_47 : decode cX8_readOperand 47 = .ok (.iconst 0, 1) := by decide +kernel
theorem dX8_readOperand_48 : decode cX8_readOperand 48 = .ok (.iastore, 1) := by decide +kernel
theorem dX8_readOperand_49 : decode cX8_readOperand 49 = .ok (.aload_n 0, 1) := by decide +kernel
theorem dX8_readOperand_50 : decode cX8_readOperand 50 = .ok (.invokevirtual 175, 3) := by decide +kernel
theorem dX8_readOperand_53 : decode cX8_readOperand 53 = .ok (.iconst 1, 1) := by decide +kernel
theorem dX8_readOperand_54 : decode cX8_readOperand 54 = .ok (.ireturn, 1) := by decide +kernel
theorem dX8_readOperand_55 : decode cX8_readOperand 55 = .ok (.aload_n 0, 1) := by decide +kernel
theorem dX8_readOperand_56 : decode cX8_readOperand 56 = .ok (.sipush (-1000), 3) := by decide +kernel
theorem dX8_readOperand_59 : decode cX8_readOperand 59 = .ok (.sipush 1000, 3) := by decide +kernel
theorem dX8_readOperand_62 : decode cX8_readOperand 62 = .ok (.invokevirtual 217, 3) := by decide +kernel
theorem dX8_readOperand_65 : decode cX8_readOperand 65 = .ok (.ifCond .ne 5, 3) := by decide +kernel
theorem dX8_readOperand_68 : decode cX8_readOperand 68 = .ok (.iconst 0, 1) := by decide +kernel
theorem dX8_readOperand_69 : decode cX8_readOperand 69 = .ok (.ireturn, 1) := by decide +kernel
theorem dX8_readOperand_70 : decode cX8_readOperand 70 = .ok (.aload_n 0, 1) := by decide +kernel
theorem dX8_readOperand_71 : decode cX8_readOperand 71 = .ok (.getfield 31, 3) := by decide +kernel
theorem dX8_readOperand_74 : decode cX8_readOperand 74 = .ok (.iload_n 2, 1) := by decide +kernel
theorem dX8_readOperand_75 : decode cX8_readOperand 75 = .ok (.bipush (-2), 2) := by decide +kernel
theorem dX8_readOperand_77 : decode cX8_readOperand 77 = .ok (.iastore, 1) := by decide +kernel
theorem dX8_readOperand_78 : decode cX8_readOperand 78 = .ok (.aload_n 0, 1) := by decide +kernel
theorem dX8_readOperand_79 : decode cX8_readOperand 79 = .ok (.getfield 34, 3) := by decide +kernel
theorem dX8_readOperand_82 : decode cX8_readOperand 82 = .ok (.iload_n 2, 1) := by decide +kernel
theorem dX8_readOperand_83 : decode cX8_readOperand 83 = .ok (.aload_n 0, 1) := by decide +kernel
theorem dX8_readOperand_84 : decode cX8_readOperand 84 = .ok (.getfield 178, 3) := by decide +kernel
theorem dX8_readOperand_87 : decode cX8_readOperand 87 = .ok (.iastore, 1) := by decide +kernel
theorem dX8_readOperand_88 : decode cX8_readOperand 88 = .ok (.aload_n 0, 1) := by decide +kernel
theorem dX8_readOperand_89 : decode cX8_readOperand 89 = .ok (.invokevirtual 175, 3) := by decide +kernel
theorem dX8_readOperand_92 : decode cX8_readOperand 92 = .ok (.iconst 1, 1) := by decide +kernel
theorem dX8_readOperand_93 : decode cX8_readOperand 93 = .ok (.ireturn, 1) := by decide +kernel
theorem dX8_takes_0 : decode cX8_takes 0 = .ok (.aload_n 0, 1) := by decide +kernel
theorem dX8_takes_1 : decode cX8_takes 1 = .ok (.getfield 133, 3) := by decide +kernel
theorem dX8_takes_4 : decode cX8_takes 4 = .ok (.iload_n 1, 1) := by decide +kernel
theorem dX8_takes_5 : decode cX8_takes 5 = .ok (.if_icmp .eq 9, 3) := by decide +kernel
theorem dX8_takes_8 : decode cX8_takes 8 = .ok (.aload_n 0, 1) := by decide +kernel
theorem dX8_takes_9 : decode cX8_takes 9 = .ok (.iconst 1, 1) := by decide +kernel
theorem dX8_takes_10 : decode cX8_takes 10 = .ok (.invokevirtual 171, 3) := by decide +kernel
theorem dX8_takes_13 : decode cX8_takes 13 = .ok (.ireturn, 1) := by decide +kernel
theorem dX8_takes_14 : decode cX8_takes 14 = .ok (.aload_n 0, 1) := by decide +kernel
theorem dX8_takes_15 : decode cX8_takes 15 = .ok (.invokevirtual 175, 3) := by decide +kernel
theorem dX8_takes_18 : decode cX8_takes 18 = .ok (.iconst 1, 1) := by decide +kernel
theorem dX8_takes_19 : decode cX8_takes 19 = .ok (.ireturn, 1) := by decide +kernel
theorem dX8_readSteps_0 : decode cX8_readSteps 0 = .ok (.bipush 15, 2) := by decide +kernel
theorem dX8_readSteps_2 : decode cX8_readSteps 2 = .ok (.aload_n 0, 1) := by decide +kernel
theorem dX8_readSteps_3 : decode cX8_readSteps 3 = .ok (.getfield 199, 3) := by decide +kernel
theorem dX8_readSteps_6 : decode cX8_readSteps 6 = .ok (.iadd, 1) := by decide +kernel
theorem dX8_readSteps_7 : decode cX8_readSteps 7 = .ok (.istore_n 1, 1) := by decide +kernel
theorem dX8_readSteps_8 : decode cX8_readSteps 8 = .ok (.aload_n 0, 1) := by decide +kernel
theorem dX8_readSteps_9 : decode cX8_readSteps 9 = .ok (.ldc 189, 2) := by decide +kernel
theorem dX8_readSteps_11 : decode cX8_readSteps 11 = .ok (.invokevirtual 167, 3) := by decide +kernel
theorem dX8_readSteps_14 : decode cX8_readSteps 14 = .ok (.ifCond .eq 79, 3) := by decide +kernel
theorem dX8_readSteps_17 : decode cX8_readSteps 17 = .ok (.aload_n 0, 1) := by decide +kernel
theorem dX8_readSteps_18 : decode cX8_readSteps 18 = .ok (.getfield 19, 3) := by decide +kernel
theorem dX8_readSteps_21 : decode cX8_readSteps 21 = .ok (.iload_n 1, 1) := by decide +kernel
theorem dX8_readSteps_22 : decode cX8_readSteps 22 = .ok (.iconst 3, 1) := by decide +kernel
theorem dX8_readSteps_23 : decode cX8_readSteps 23 = .ok (.iastore, 1) := by decide +kernel
theorem dX8_readSteps_24 : decode cX8_readSteps 24 = .ok (.aload_n 0, 1) := by decide +kernel
theorem dX8_readSteps_25 : decode cX8_readSteps 25 = .ok (.invokevirtual 175, 3) := by decide +kernel
theorem dX8_readSteps_28 : decode cX8_readSteps 28 = .ok (.aload_n 0, 1) := by decide +kernel
theorem dX8_readSteps_29 : decode cX8_readSteps 29 = .ok (.iconst 0, 1) := by decide +kernel
theorem dX8_readSteps_30 : decode cX8_readSteps 30 = .ok (.invokevirtual 221, 3) := by decide +kernel
theorem dX8_readSteps_33 : decode cX8_readSteps 33 = .ok (.ifCond .eq 58, 3) := by decide +kernel
theorem dX8_readSteps_36 : decode cX8_readSteps 36 = .ok (.aload_n 0, 1) := by decide +kernel
theorem dX8_readSteps_37 : decode cX8_readSteps 37 = .ok (.bipush 60, 2) := by decide +kernel
theorem dX8_readSteps_39 : decode cX8_readSteps 39 = .ok (.invokevirtual 224, 3) := by decide +kernel
theorem dX8_readSteps_42 : decode cX8_readSteps 42 = .ok (.ifCond .eq 49, 3) := by decide +kernel
theorem dX8_readSteps_45 : decode cX8_readSteps 45 = .ok (.aload_n 0, 1) := by decide +kernel
theorem dX8_readSteps_46 : decode cX8_readSteps 46 = .ok (.iconst 1, 1) := by decide +kernel
theorem dX8_readSteps_47 : decode cX8_readSteps 47 = .ok (.invokevirtual 221, 3) := by decide +kernel
theorem dX8_readSteps_50 : decode cX8_readSteps 50 = .ok (.ifCond .eq 41, 3) := by decide +kernel
theorem dX8_readSteps_53 : decode cX8_readSteps 53 = .ok (.aload_n 0, 1) := by decide +kernel
theorem dX8_readSteps_54 : decode cX8_readSteps 54 = .ok (.ldc 191, 2) := by decide +kernel
theorem dX8_readSteps_56 : decode cX8_readSteps 56 = .ok (.invokevirtual 214, 3) := by decide +kernel
theorem dX8_readSteps_59 : decode cX8_readSteps 59 = .ok (.ifCond .eq 32, 3) := by decide +kernel
theorem dX8_readSteps_62 : decode cX8_readSteps 62 = .ok (.aload_n 0, 1) := by decide +kernel
theorem dX8_readSteps_63 : decode cX8_readSteps 63 = .ok (.iconst 2, 1) := by decide +kernel
theorem dX8_readSteps_64 : decode cX8_readSteps 64 = .ok (.invokevirtual 221, 3) := by decide +kernel
theorem dX8_readSteps_67 : decode cX8_readSteps 67 = .ok (.ifCond .eq 24, 3) := by decide +kernel
theorem dX8_readSteps_70 : decode cX8_readSteps 70 = .ok (.aload_n 0, 1) := by decide +kernel
theorem dX8_readSteps_71 : decode cX8_readSteps 71 = .ok (.ldc 193, 2) := by decide +kernel
theorem dX8_readSteps_73 : decode cX8_readSteps 73 = .ok (.invokevirtual 214, 3) := by decide +kernel
theorem dX8_readSteps_76 : decode cX8_readSteps 76 = .ok (.ifCond .eq 15, 3) := by decide +kernel
theorem dX8_readSteps_79 : decode cX8_readSteps 79 = .ok (.aload_n 0, 1) := by decide +kernel
theorem dX8_readSteps_80 : decode cX8_readSteps 80 = .ok (.iconst 3, 1) := by decide +kernel
theorem dX8_readSteps_81 : decode cX8_readSteps 81 = .ok (.invokevirtual 221, 3) := by decide +kernel
theorem dX8_readSteps_84 : decode cX8_readSteps 84 = .ok (.ifCond .eq 7, 3) := by decide +kernel
theorem dX8_readSteps_87 : decode cX8_readSteps 87 = .ok (.iconst 1, 1) := by decide +kernel
theorem dX8_readSteps_88 : decode cX8_readSteps 88 = .ok (.goto 4, 3) := by decide +kernel
theorem dX8_readSteps_91 : decode cX8_readSteps 91 = .ok (.iconst 0, 1) := by decide +kernel
theorem dX8_readSteps_92 : decode cX8_readSteps 92 = .ok (.ireturn, 1) := by decide +kernel
theorem dX8_readSteps_93 : decode cX8_readSteps 93 = .ok (.aload_n 0, 1) := by decide +kernel
theorem dX8_readSteps_94 : decode cX8_readSteps 94 = .ok (.iconst 0, 1) := by decide +kernel
theorem dX8_readSteps_95 : decode cX8_readSteps 95 = .ok (.invokevirtual 221, 3) := by decide +kernel
theorem dX8_readSteps_98 : decode cX8_readSteps 98 = .ok (.ifCond .ne 5, 3) := by decide +kernel
theorem dX8_readSteps_101 : decode cX8_readSteps 101 = .ok (.iconst 0, 1) := by decide +kernel
theorem dX8_readSteps_102 : decode cX8_readSteps 102 = .ok (.ireturn, 1) := by decide +kernel
theorem dX8_readSteps_103 : decode cX8_readSteps 103 = .ok (.aload_n 0, 1) := by decide +kernel
theorem dX8_readSteps_104 : decode cX8_readSteps 104 = .ok (.getfield 133, 3) := by decide +kernel
theorem dX8_readSteps_107 : decode cX8_readSteps 107 = .ok (.bipush 43, 2) := by decide +kernel
theorem dX8_readSteps_109 : decode cX8_readSteps 109 = .ok (.if_icmp .eq 27, 3) := by decide +kernel
theorem dX8_readSteps_112 : decode cX8_readSteps 112 = .ok (.aload_n 0, 1) := by decide +kernel
theorem dX8_readSteps_113 : decode cX8_readSteps 113 = .ok (.getfield 133, 3) := by decide +kernel
theorem dX8_readSteps_116 : decode cX8_readSteps 116 = .ok (.bipush 45, 2) := by decide +kernel
theorem dX8_readSteps_118 : decode cX8_readSteps 118 = .ok (.if_icmp .eq 18, 3) := by decide +kernel
theorem dX8_readSteps_121 : decode cX8_readSteps 121 = .ok (.aload_n 0, 1) := by decide +kernel
theorem dX8_readSteps_122 : decode cX8_readSteps 122 = .ok (.getfield 133, 3) := by decide +kernel
theorem dX8_readSteps_125 : decode cX8_readSteps 125 = .ok (.bipush 42, 2) := by decide +kernel
theorem dX8_readSteps_127 : decode cX8_readSteps 127 = .ok (.if_icmp .eq 9, 3) := by decide +kernel
theorem dX8_readSteps_130 : decode cX8_readSteps 130 = .ok (.aload_n 0, 1) := by decide +kernel
theorem dX8_readSteps_131 : decode cX8_readSteps 131 = .ok (.iconst 1, 1) := by decide +kernel
theorem dX8_readSteps_132 : decode cX8_readSteps 132 = .ok (.invokevirtual 171, 3) := by decide +kernel
theorem dX8_readSteps_135 : decode cX8_readSteps 135 = .ok (.ireturn, 1) := by decide +kernel
theorem dX8_readSteps_136 : decode cX8_readSteps 136 = .ok (.aload_n 0, 1) := by decide +kernel
theorem dX8_readSteps_137 : decode cX8_readSteps 137 = .ok (.getfield 19, 3) := by decide +kernel
theorem dX8_readSteps_140 : decode cX8_readSteps 140 = .ok (.iload_n 1, 1) := by decide +kernel
theorem dX8_readSteps_141 : decode cX8_readSteps 141 = .ok (.aload_n 0, 1) := by decide +kernel
theorem dX8_readSteps_142 : decode cX8_readSteps 142 = .ok (.getfield 133, 3) := by decide +kernel
theorem dX8_readSteps_145 : decode cX8_readSteps 145 = .ok (.bipush 43, 2) := by decide +kernel
theorem dX8_readSteps_147 : decode cX8_readSteps 147 = .ok (.if_icmp .ne 7, 3) := by decide +kernel
theorem dX8_readSteps_150 : decode cX8_readSteps 150 = .ok (.iconst 0, 1) := by decide +kernel
theorem dX8_readSteps_151 : decode cX8_readSteps 151 = .ok (.goto 17, 3) := by decide +kernel
theorem dX8_readSteps_154 : decode cX8_readSteps 154 = .ok (.aload_n 0, 1) := by decide +kernel
theorem dX8_readSteps_155 : decode cX8_readSteps 155 = .ok (.getfield 133, 3) := by decide +kernel
theorem dX8_readSteps_158 : decode cX8_readSteps 158 = .ok (.bipush 45, 2) := by decide +kernel
theorem dX8_readSteps_160 : decode cX8_readSteps 160 = .ok (.if_icmp .ne 7, 3) := by decide +kernel
theorem dX8_readSteps_163 : decode cX8_readSteps 163 = .ok (.iconst 1, 1) := by decide +kernel
theorem dX8_readSteps_164 : decode cX8_readSteps 164 = .ok (.goto 4, 3) := by decide +kernel
theorem dX8_readSteps_167 : decode cX8_readSteps 167 = .ok (.iconst 2, 1) := by decide +kernel
theorem dX8_readSteps_168 : decode cX8_readSteps 168 = .ok (.iastore, 1) := by decide +kernel
theorem dX8_readSteps_169 : decode cX8_readSteps 169 = .ok (.aload_n 0, 1) := by decide +kernel
theorem dX8_readSteps_170 : decode cX8_readSteps 170 = .ok (.invokevirtual 175, 3) := by decide +kernel
theorem dX8_readSteps_173 : decode cX8_readSteps 173 = .ok (.aload_n 0, 1) := by decide +kernel
theorem dX8_readSteps_174 : decode cX8_readSteps 174 = .ok (.iconst 1, 1) := by decide +kernel
theorem dX8_readSteps_175 : decode cX8_readSteps 175 = .ok (.invokevirtual 221, 3) := by decide +kernel
theorem dX8_readSteps_178 : decode cX8_readSteps 178 = .ok (.ireturn, 1) := by decide +kernel
theorem dX8_readLet_0 : decode cX8_readLet 0 = .ok (.aload_n 0, 1) := by decide +kernel
theorem dX8_readLet_1 : decode cX8_readLet 1 = .ok (.getfield 199, 3) := by decide +kernel
theorem dX8_readLet_4 : decode cX8_readLet 4 = .ok (.aload_n 0, 1) := by decide +kernel
theorem dX8_readLet_5 : decode cX8_readLet 5 = .ok (.getfield 208, 3) := by decide +kernel
theorem dX8_readLet_8 : decode cX8_readLet 8 = .ok (.isub, 1) := by decide +kernel
theorem dX8_readLet_9 : decode cX8_readLet 9 = .ok (.bipush 12, 2) := by decide +kernel
theorem dX8_readLet_11 : decode cX8_readLet 11 = .ok (.if_icmp .ne 9, 3) := by decide +kernel
theorem dX8_readLet_14 : decode cX8_readLet 14 = .ok (.aload_n 0, 1) := by decide +kernel
theorem dX8_readLet_15 : decode cX8_readLet 15 = .ok (.iconst 4, 1) := by decide +kernel
theorem dX8_readLet_16 : decode cX8_readLet 16 = .ok (.invokevirtual 171, 3) := by decide +kernel
theorem dX8_readLet_19 : decode cX8_readLet 19 = .ok (.ireturn, 1) := by decide +kernel
theorem dX8_readLet_20 : decode cX8_readLet 20 = .ok (.aload_n 0, 1) := by decide +kernel
theorem dX8_readLet_21 : decode cX8_readLet 21 = .ok (.invokevirtual 175, 3) := by decide +kernel
theorem dX8_readLet_24 : decode cX8_readLet 24 = .ok (.aload_n 0, 1) := by decide +kernel
theorem dX8_readLet_25 : decode cX8_readLet 25 = .ok (.getfield 130, 3) := by decide +kernel
theorem dX8_readLet_28 : decode cX8_readLet 28 = .ok (.istore_n 1, 1) := by decide +kernel
theorem dX8_readLet_29 : decode cX8_readLet 29 = .ok (.aload_n 0, 1) := by decide +kernel
theorem dX8_readLet_30 : decode cX8_readLet 30 = .ok (.invokevirtual 211, 3) := by decide +kernel
theorem dX8_readLet_33 : decode cX8_readLet 33 = .ok (.ifCond .ne 5, 3) := by decide +kernel
theorem dX8_readLet_36 : decode cX8_readLet 36 = .ok (.iconst 0, 1) := by decide +kernel
theorem dX8_readLet_37 : decode cX8_readLet 37 = .ok (.ireturn, 1) := by decide +kernel
theorem dX8_readLet_38 : decode cX8_readLet 38 = .ok (.aload_n 0, 1) := by decide +kernel
theorem dX8_readLet_39 : decode cX8_readLet 39 = .ok (.bipush 61, 2) := by decide +kernel
theorem dX8_readLet_41 : decode cX8_readLet 41 = .ok (.invokevirtual 224, 3) := by decide +kernel
theorem dX8_readLet_44 : decode cX8_readLet 44 = .ok (.ifCond .eq 19, 3) := by decide +kernel
theorem dX8_readLet_47 : decode cX8_readLet 47 = .ok (.aload_n 0, 1) := by decide +kernel
theorem dX8_readLet_48 : decode cX8_readLet 48 = .ok (.invokevirtual 227, 3) := by decide +kernel
theorem dX8_readLet_51 : decode cX8_readLet 51 = .ok (.ifCond .eq 12, 3) := by decide +kernel
theorem dX8_readLet_54 : decode cX8_readLet 54 = .ok (.aload_n 0, 1) := by decide +kernel
theorem dX8_readLet_55 : decode cX8_readLet 55 = .ok (.ldc 187, 2) := by decide +kernel
theorem dX8_readLet_57 : decode cX8_readLet 57 = .ok (.invokevirtual 214, 3) := by decide +kernel
theorem dX8_readLet_60 : decode cX8_readLet 60 = .ok (.ifCond .ne 5, 3) := by decide +kernel
theorem dX8_readLet_63 : decode cX8_readLet 63 = .ok (.iconst 0, 1) := by decide +kernel
theorem dX8_readLet_64 : decode cX8_readLet 64 = .ok (.ireturn, 1) := by decide +kernel
theorem dX8_readLet_65 : decode cX8_readLet 65 = .ok (.aload_n 0, 1) := by decide +kernel
theorem dX8_readLet_66 : decode cX8_readLet 66 = .ok (.getfield 133, 3) := by decide +kernel
theorem dX8_readLet_69 : decode cX8_readLet 69 = .ok (.iconst 3, 1) := by decide +kernel
theorem dX8_readLet_70 : decode cX8_readLet 70 = .ok (.if_icmp .eq 9, 3) := by decide +kernel
theorem dX8_readLet_73 : decode cX8_readLet 73 = .ok (.aload_n 0, 1) := by decide +kernel
theorem dX8_readLet_74 : decode cX8_readLet 74 = .ok (.iconst 1, 1) := by decide +kernel
theorem dX8_readLet_75 : decode cX8_readLet 75 = .ok (.invokevirtual 171, 3) := by decide +kernel
theorem dX8_readLet_78 : decode cX8_readLet 78 = .ok (.ireturn, 1) := by decide +kernel
theorem dX8_readLet_79 : decode cX8_readLet 79 = .ok (.aload_n 0, 1) := by decide +kernel
theorem dX8_readLet_80 : decode cX8_readLet 80 = .ok (.getfield 148, 3) := by decide +kernel
theorem dX8_readLet_83 : decode cX8_readLet 83 = .ok (.i2l, 1) := by decide +kernel
theorem dX8_readLet_84 : decode cX8_readLet 84 = .ok (.lconst 0, 1) := by decide +kernel
theorem dX8_readLet_85 : decode cX8_readLet 85 = .ok (.ldc2_w 230, 3) := by decide +kernel
theorem dX8_readLet_88 : decode cX8_readLet 88 = .ok (.invokestatic 140, 3) := by decide +kernel
theorem dX8_readLet_91 : decode cX8_readLet 91 = .ok (.ifCond .ne 9, 3) := by decide +kernel
theorem dX8_readLet_94 : decode cX8_readLet 94 = .ok (.aload_n 0, 1) := by decide +kernel
theorem dX8_readLet_95 : decode cX8_readLet 95 = .ok (.iconst 2, 1) := by decide +kernel
theorem dX8_readLet_96 : decode cX8_readLet 96 = .ok (.invokevirtual 171, 3) := by decide +kernel
theorem dX8_readLet_99 : decode cX8_readLet 99 = .ok (.ireturn, 1) := by decide +kernel
theorem dX8_readLet_100 : decode cX8_readLet 100 = .ok (.aload_n 0, 1) := by decide +kernel
theorem dX8_readLet_101 : decode cX8_readLet 101 = .ok (.getfield 22, 3) := by decide +kernel
theorem dX8_readLet_104 : decode cX8_readLet 104 = .ok (.bipush 15, 2) := by decide +kernel
theorem dX8_readLet_106 : decode cX8_readLet 106 = .ok (.aload_n 0, 1) := by decide +kernel
theorem dX8_readLet_107 : decode cX8_readLet 107 = .ok (.getfield 199, 3) := by decide +kernel
theorem dX8_readLet_110 : decode cX8_readLet 110 = .ok (.iadd, 1) := by decide +kernel
theorem dX8_readLet_111 : decode cX8_readLet 111 = .ok (.aload_n 0, 1) := by decide +kernel
theorem dX8_readLet_112 : decode cX8_readLet 112 = .ok (.getfield 148, 3) := by decide +kernel
theorem dX8_readLet_115 : decode cX8_readLet 115 = .ok (.iastore, 1) := by decide +kernel
theorem dX8_readLet_116 : decode cX8_readLet 116 = .ok (.aload_n 0, 1) := by decide +kernel
theorem dX8_readLet_117 : decode cX8_readLet 117 = .ok (.bipush 15, 2) := by decide +kernel
theorem dX8_readLet_119 : decode cX8_readLet 119 = .ok (.aload_n 0, 1) := by decide +kernel
theorem dX8_readLet_120 : decode cX8_readLet 120 = .ok (.getfield 199, 3) := by decide +kernel
theorem dX8_readLet_123 : decode cX8_readLet 123 = .ok (.iconst 1, 1) := by decide +kernel
theorem dX8_readLet_124 : decode cX8_readLet 124 = .ok (.iadd, 1) := by decide +kernel
theorem dX8_readLet_125 : decode cX8_readLet 125 = .ok (.invokevirtual 232, 3) := by decide +kernel
theorem dX8_readLet_128 : decode cX8_readLet 128 = .ok (.ifCond .ne 14, 3) := by decide +kernel
theorem dX8_readLet_131 : decode cX8_readLet 131 = .ok (.aload_n 0, 1) := by decide +kernel
theorem dX8_readLet_132 : decode cX8_readLet 132 = .ok (.iload_n 1, 1) := by decide +kernel
theorem dX8_readLet_133 : decode cX8_readLet 133 = .ok (.putfield 130, 3) := by decide +kernel
theorem dX8_readLet_136 : decode cX8_readLet 136 = .ok (.aload_n 0, 1) := by decide +kernel
theorem dX8_readLet_137 : decode cX8_readLet 137 = .ok (.iconst 5, 1) := by decide +kernel
theorem dX8_readLet_138 : decode cX8_readLet 138 = .ok (.invokevirtual 171, 3) := by decide +kernel
theorem dX8_readLet_141 : decode cX8_readLet 141 = .ok (.ireturn, 1) := by decide +kernel
theorem dX8_readLet_142 : decode cX8_readLet 142 = .ok (.aload_n 0, 1) := by decide +kernel
theorem dX8_readLet_143 : decode cX8_readLet 143 = .ok (.invokevirtual 175, 3) := by decide +kernel
theorem dX8_readLet_146 : decode cX8_readLet 146 = .ok (.aload_n 0, 1) := by decide +kernel
theorem dX8_readLet_147 : decode cX8_readLet 147 = .ok (.dup, 1) := by decide +kernel
theorem dX8_readLet_148 : decode cX8_readLet 148 = .ok (.getfield 199, 3) := by decide +kernel
theorem dX8_readLet_151 : decode cX8_readLet 151 = .ok (.iconst 1, 1) := by decide +kernel
theorem dX8_readLet_152 : decode cX8_readLet 152 = .ok (.iadd, 1) := by decide +kernel
theorem dX8_readLet_153 : decode cX8_readLet 153 = .ok (.putfield 199, 3) := by decide +kernel
theorem dX8_readLet_156 : decode cX8_readLet 156 = .ok (.iconst 1, 1) := by decide +kernel
theorem dX8_readLet_157 : decode cX8_readLet 157 = .ok (.ireturn, 1) := by decide +kernel
theorem dX8_readLine_0 : decode cX8_readLine 0 = .ok (.aload_n 0, 1) := by decide +kernel
theorem dX8_readLine_1 : decode cX8_readLine 1 = .ok (.ldc 181, 2) := by decide +kernel
theorem dX8_readLine_3 : decode cX8_readLine 3 = .ok (.invokevirtual 167, 3) := by decide +kernel
theorem dX8_readLine_6 : decode cX8_readLine 6 = .ok (.ifCond .eq 8, 3) := by decide +kernel
theorem dX8_readLine_9 : decode cX8_readLine 9 = .ok (.aload_n 0, 1) := by decide +kernel
theorem dX8_readLine_10 : decode cX8_readLine 10 = .ok (.invokevirtual 235, 3) := by decide +kernel
theorem dX8_readLine_13 : decode cX8_readLine 13 = .ok (.ireturn, 1) := by decide +kernel
theorem dX8_readLine_14 : decode cX8_readLine 14 = .ok (.aload_n 0, 1) := by decide +kernel
theorem dX8_readLine_15 : decode cX8_readLine 15 = .ok (.ldc 185, 2) := by decide +kernel
theorem dX8_readLine_17 : decode cX8_readLine 17 = .ok (.invokevirtual 167, 3) := by decide +kernel
theorem dX8_readLine_20 : decode cX8_readLine 20 = .ok (.ifCond .eq 10, 3) := by decide +kernel
theorem dX8_readLine_23 : decode cX8_readLine 23 = .ok (.aload_n 0, 1) := by decide +kernel
theorem dX8_readLine_24 : decode cX8_readLine 24 = .ok (.invokevirtual 238, 3) := by decide +kernel
theorem dX8_readLine_27 : decode cX8_readLine 27 = .ok (.goto 8, 3) := by decide +kernel
theorem dX8_readLine_30 : decode cX8_readLine 30 = .ok (.aload_n 0, 1) := by decide +kernel
theorem dX8_readLine_31 : decode cX8_readLine 31 = .ok (.iconst 1, 1) := by decide +kernel
theorem dX8_readLine_32 : decode cX8_readLine 32 = .ok (.invokevirtual 171, 3) := by decide +kernel
theorem dX8_readLine_35 : decode cX8_readLine 35 = .ok (.ireturn, 1) := by decide +kernel
theorem dX8_readAll_0 : decode cX8_readAll 0 = .ok (.aload_n 0, 1) := by decide +kernel
theorem dX8_readAll_1 : decode cX8_readAll 1 = .ok (.iload_n 1, 1) := by decide +kernel
theorem dX8_readAll_2 : decode cX8_readAll 2 = .ok (.putfield 120, 3) := by decide +kernel
theorem dX8_readAll_5 : decode cX8_readAll 5 = .ok (.aload_n 0, 1) := by decide +kernel
theorem dX8_readAll_6 : decode cX8_readAll 6 = .ok (.iconst 0, 1) := by decide +kernel
theorem dX8_readAll_7 : decode cX8_readAll 7 = .ok (.putfield 123, 3) := by decide +kernel
theorem dX8_readAll_10 : decode cX8_readAll 10 = .ok (.aload_n 0, 1) := by decide +kernel
theorem dX8_readAll_11 : decode cX8_readAll 11 = .ok (.iconst 0, 1) := by decide +kernel
theorem dX8_readAll_12 : decode cX8_readAll 12 = .ok (.putfield 199, 3) := by decide +kernel
theorem dX8_readAll_15 : decode cX8_readAll 15 = .ok (.aload_n 0, 1) := by decide +kernel
theorem dX8_readAll_16 : decode cX8_readAll 16 = .ok (.iconst 0, 1) := by decide +kernel
theorem dX8_readAll_17 : decode cX8_readAll 17 = .ok (.putfield 208, 3) := by decide +kernel
theorem dX8_readAll_20 : decode cX8_readAll 20 = .ok (.aload_n 0, 1) := by decide +kernel
theorem dX8_readAll_21 : decode cX8_readAll 21 = .ok (.invokevirtual 175, 3) := by decide +kernel
theorem dX8_readAll_24 : decode cX8_readAll 24 = .ok (.aload_n 0, 1) := by decide +kernel
theorem dX8_readAll_25 : decode cX8_readAll 25 = .ok (.invokevirtual 241, 3) := by decide +kernel
theorem dX8_readAll_28 : decode cX8_readAll 28 = .ok (.ifCond .ne 5, 3) := by decide +kernel
theorem dX8_readAll_31 : decode cX8_readAll 31 = .ok (.iconst 0, 1) := by decide +kernel
theorem dX8_readAll_32 : decode cX8_readAll 32 = .ok (.ireturn, 1) := by decide +kernel
theorem dX8_readAll_33 : decode cX8_readAll 33 = .ok (.aload_n 0, 1) := by decide +kernel
theorem dX8_readAll_34 : decode cX8_readAll 34 = .ok (.getfield 133, 3) := by decide +kernel
theorem dX8_readAll_37 : decode cX8_readAll 37 = .ok (.bipush 59, 2) := by decide +kernel
theorem dX8_readAll_39 : decode cX8_readAll 39 = .ok (.if_icmp .ne 16, 3) := by decide +kernel
theorem dX8_readAll_42 : decode cX8_readAll 42 = .ok (.aload_n 0, 1) := by decide +kernel
theorem dX8_readAll_43 : decode cX8_readAll 43 = .ok (.invokevirtual 175, 3) := by decide +kernel
theorem dX8_readAll_46 : decode cX8_readAll 46 = .ok (.aload_n 0, 1) := by decide +kernel
theorem dX8_readAll_47 : decode cX8_readAll 47 = .ok (.invokevirtual 241, 3) := by decide +kernel
theorem dX8_readAll_50 : decode cX8_readAll 50 = .ok (.ifCond .ne (-17), 3) := by decide +kernel
theorem dX8_readAll_53 : decode cX8_readAll 53 = .ok (.iconst 0, 1) := by decide +kernel
theorem dX8_readAll_54 : decode cX8_readAll 54 = .ok (.ireturn, 1) := by decide +kernel
theorem dX8_readAll_55 : decode cX8_readAll 55 = .ok (.aload_n 0, 1) := by decide +kernel
theorem dX8_readAll_56 : decode cX8_readAll 56 = .ok (.getfield 133, 3) := by decide +kernel
theorem dX8_readAll_59 : decode cX8_readAll 59 = .ok (.ifCond .eq 9, 3) := by decide +kernel
theorem dX8_readAll_62 : decode cX8_readAll 62 = .ok (.aload_n 0, 1) := by decide +kernel
theorem dX8_readAll_63 : decode cX8_readAll 63 = .ok (.iconst 1, 1) := by decide +kernel
theorem dX8_readAll_64 : decode cX8_readAll 64 = .ok (.invokevirtual 171, 3) := by decide +kernel
theorem dX8_readAll_67 : decode cX8_readAll 67 = .ok (.ireturn, 1) := by decide +kernel
theorem dX8_readAll_68 : decode cX8_readAll 68 = .ok (.aload_n 0, 1) := by decide +kernel
theorem dX8_readAll_69 : decode cX8_readAll 69 = .ok (.getfield 199, 3) := by decide +kernel
theorem dX8_readAll_72 : decode cX8_readAll 72 = .ok (.aload_n 0, 1) := by decide +kernel
theorem dX8_readAll_73 : decode cX8_readAll 73 = .ok (.getfield 208, 3) := by decide +kernel
theorem dX8_readAll_76 : decode cX8_readAll 76 = .ok (.if_icmp .gt 12, 3) := by decide +kernel
theorem dX8_readAll_79 : decode cX8_readAll 79 = .ok (.aload_n 0, 1) := by decide +kernel
theorem dX8_readAll_80 : decode cX8_readAll 80 = .ok (.bipush 6, 2) := by decide +kernel
theorem dX8_readAll_82 : decode cX8_readAll 82 = .ok (.invokevirtual 171, 3) := by decide +kernel
theorem dX8_readAll_85 : decode cX8_readAll 85 = .ok (.ifCond .eq 7, 3) := by decide +kernel
theorem dX8_readAll_88 : decode cX8_readAll 88 = .ok (.iconst 1, 1) := by decide +kernel
theorem dX8_readAll_89 : decode cX8_readAll 89 = .ok (.goto 4, 3) := by decide +kernel
theorem dX8_readAll_92 : decode cX8_readAll 92 = .ok (.iconst 0, 1) := by decide +kernel
theorem dX8_readAll_93 : decode cX8_readAll 93 = .ok (.ireturn, 1) := by decide +kernel
theorem dX8_sizeOf_0 : decode cX8_sizeOf 0 = .ok (.lload_n 0, 1) := by decide +kernel
theorem dX8_sizeOf_1 : decode cX8_sizeOf 1 = .ok (.lconst 0, 1) := by decide +kernel
theorem dX8_sizeOf_2 : decode cX8_sizeOf 2 = .ok (.lcmp, 1) := by decide +kernel
theorem dX8_sizeOf_3 : decode cX8_sizeOf 3 = .ok (.ifCond .ge 8, 3) := by decide +kernel
theorem dX8_sizeOf_6 : decode cX8_sizeOf 6 = .ok (.lload_n 0, 1) := by decide +kernel
theorem dX8_sizeOf_7 : decode cX8_sizeOf 7 = .ok (.lneg, 1) := by decide +kernel
theorem dX8_sizeOf_8 : decode cX8_sizeOf 8 = .ok (.goto 4, 3) := by decide +kernel
theorem dX8_sizeOf_11 : decode cX8_sizeOf 11 = .ok (.lload_n 0, 1) := by decide +kernel
theorem dX8_sizeOf_12 : decode cX8_sizeOf 12 = .ok (.lreturn, 1) := by decide +kernel
theorem dX8_weightOf_0 : decode cX8_weightOf 0 = .ok (.iconst 4, 1) := by decide +kernel
theorem dX8_weightOf_1 : decode cX8_weightOf 1 = .ok (.iload_n 1, 1) := by decide +kernel
theorem dX8_weightOf_2 : decode cX8_weightOf 2 = .ok (.iload_n 2, 1) := by decide +kernel
theorem dX8_weightOf_3 : decode cX8_weightOf 3 = .ok (.iadd, 1) := by decide +kernel
theorem dX8_weightOf_4 : decode cX8_weightOf 4 = .ok (.imul, 1) := by decide +kernel
theorem dX8_weightOf_5 : decode cX8_weightOf 5 = .ok (.iload_n 3, 1) := by decide +kernel
theorem dX8_weightOf_6 : decode cX8_weightOf 6 = .ok (.iadd, 1) := by decide +kernel
theorem dX8_weightOf_7 : decode cX8_weightOf 7 = .ok (.istore 4, 2) := by decide +kernel
theorem dX8_weightOf_9 : decode cX8_weightOf 9 = .ok (.aload_n 0, 1) := by decide +kernel
theorem dX8_weightOf_10 : decode cX8_weightOf 10 = .ok (.getfield 31, 3) := by decide +kernel
theorem dX8_weightOf_13 : decode cX8_weightOf 13 = .ok (.iload 4, 2) := by decide +kernel
theorem dX8_weightOf_15 : decode cX8_weightOf 15 = .ok (.iaload, 1) := by decide +kernel
theorem dX8_weightOf_16 : decode cX8_weightOf 16 = .ok (.bipush (-2), 2) := by decide +kernel
theorem dX8_weightOf_18 : decode cX8_weightOf 18 = .ok (.if_icmp .ne 17, 3) := by decide +kernel
theorem dX8_weightOf_21 : decode cX8_weightOf 21 = .ok (.aload_n 0, 1) := by decide +kernel
theorem dX8_weightOf_22 : decode cX8_weightOf 22 = .ok (.getfield 34, 3) := by decide +kernel
theorem dX8_weightOf_25 : decode cX8_weightOf 25 = .ok (.iload 4, 2) := by decide +kernel
theorem dX8_weightOf_27 : decode cX8_weightOf 27 = .ok (.iaload, 1) := by decide +kernel
theorem dX8_weightOf_28 : decode cX8_weightOf 28 = .ok (.i2l, 1) := by decide +kernel
theorem dX8_weightOf_29 : decode cX8_weightOf 29 = .ok (.invokestatic 244, 3) := by decide +kernel
theorem dX8_weightOf_32 : decode cX8_weightOf 32 = .ok (.goto 15, 3) := by decide +kernel
theorem dX8_weightOf_35 : decode cX8_weightOf 35 = .ok (.aload_n 0, 1) := by decide +kernel
theorem dX8_weightOf_36 : decode cX8_weightOf 36 = .ok (.getfield 46, 3) := by decide +kernel
theorem dX8_weightOf_39 : decode cX8_weightOf 39 = .ok (.aload_n 0, 1) := by decide +kernel
theorem dX8_weightOf_40 : decode cX8_weightOf 40 = .ok (.getfield 31, 3) := by decide +kernel
theorem dX8_weightOf_43 : decode cX8_weightOf 43 = .ok (.iload 4, 2) := by decide +kernel
theorem dX8_weightOf_45 : decode cX8_weightOf 45 = .ok (.iaload, 1) := by decide +kernel
theorem dX8_weightOf_46 : decode cX8_weightOf 46 = .ok (.laload, 1) := by decide +kernel
theorem dX8_weightOf_47 : decode cX8_weightOf 47 = .ok (.lreturn, 1) := by decide +kernel
theorem dX8_laysWeights_0 : decode cX8_laysWeights 0 = .ok (.iconst 0, 1) := by decide +kernel
theorem dX8_laysWeights_1 : decode cX8_laysWeights 1 = .ok (.istore_n 3, 1) := by decide +kernel
theorem dX8_laysWeights_2 : decode cX8_laysWeights 2 = .ok (.iload_n 3, 1) := by decide +kernel
theorem dX8_laysWeights_3 : decode cX8_laysWeights 3 = .ok (.iload_n 2, 1) := by decide +kernel
theorem dX8_laysWeights_4 : decode cX8_laysWeights 4 = .ok (.if_icmp .ge 182, 3) := by decide +kernel
theorem dX8_laysWeights_7 : decode cX8_laysWeights 7 = .ok (.aload_n 0, 1) := by decide +kernel
theorem dX8_laysWeights_8 : decode cX8_laysWeights 8 = .ok (.getfield 19, 3) := by decide +kernel
theorem dX8_laysWeights_11 : decode cX8_laysWeights 11 = .ok (.iload_n 1, 1) := by decide +kernel
theorem dX8_laysWeights_12 : decode cX8_laysWeights 12 = .ok (.iload_n 3, 1) := by decide +kernel
theorem dX8_laysWeights_13 : decode cX8_laysWeights 13 = .ok (.iadd, 1) := by decide +kernel
theorem dX8_laysWeights_14 : decode cX8_laysWeights 14 = .ok (.iaload, 1) := by decide +kernel
theorem dX8_laysWeights_15 : decode cX8_laysWeights 15 = .ok (.istore 4, 2) := by decide +kernel
theorem dX8_laysWeights_17 : decode cX8_laysWeights 17 = .ok (.iload 4, 2) := by decide +kernel
theorem dX8_laysWeights_19 : decode cX8_laysWeights 19 = .ok (.invokestatic 248, 3) := by decide +kernel
theorem dX8_laysWeights_22 : decode cX8_laysWeights 22 = .ok (.ifCond .eq 55, 3) := by decide +kernel
theorem dX8_laysWeights_25 : decode cX8_laysWeights 25 = .ok (.aload_n 0, 1) := by decide +kernel
theorem dX8_laysWeights_26 : decode cX8_laysWeights 26 = .ok (.getfield 25, 3) := by decide +kernel
theorem dX8_laysWeights_29 : decode cX8_laysWeights 29 = .ok (.iload_n 1, 1) := by decide +kernel
theorem dX8_laysWeights_30 : decode cX8_laysWeights 30 = .ok (.iload_n 3, 1) := by decide +kernel
theorem dX8_laysWeights_31 : decode cX8_laysWeights 31 = .ok (.iadd, 1) := by decide +kernel
theorem dX8_laysWeights_32 : decode cX8_laysWeights 32 = .ok (.iaload, 1) := by decide +kernel
theorem dX8_laysWeights_33 : decode cX8_laysWeights 33 = .ok (.i2l, 1) := by decide +kernel
theorem dX8_laysWeights_34 : decode cX8_laysWeights 34 = .ok (.invokestatic 244, 3) := by decide +kernel
theorem dX8_laysWeights_37 : decode cX8_laysWeights 37 = .ok (.lstore 5, 2) := by decide +kernel
theorem dX8_laysWeights_39 : decode cX8_laysWeights 39 = .ok (.aload_n 0, 1) := by decide +kernel
theorem dX8_laysWeights_40 : decode cX8_laysWeights 40 = .ok (.getfield 28, 3) := by decide +kernel
theorem dX8_laysWeights_43 : decode cX8_laysWeights 43 = .ok (.iload_n 1, 1) := by decide +kernel
theorem dX8_laysWeights_44 : decode cX8_laysWeights 44 = .ok (.iload_n 3, 1) := by decide +kernel
theorem dX8_laysWeights_45 : decode cX8_laysWeights 45 = .ok (.iadd, 1) := by decide +kernel
theorem dX8_laysWeights_46 : decode cX8_laysWeights 46 = .ok (.iaload, 1) := by decide +kernel
theorem dX8_laysWeights_47 : decode cX8_laysWeights 47 = .ok (.i2l, 1) := by decide +kernel
theorem dX8_laysWeights_48 : decode cX8_laysWeights 48 = .ok (.invokestatic 244, 3) := by decide +kernel
theorem dX8_laysWeights_51 : decode cX8_laysWeights 51 = .ok (.lstore 7, 2) := by decide +kernel
theorem dX8_laysWeights_53 : decode cX8_laysWeights 53 = .ok (.aload_n 0, 1) := by decide +kernel
theorem dX8_laysWeights_54 : decode cX8_laysWeights 54 = .ok (.getfield 46, 3) := by decide +kernel
theorem dX8_laysWeights_57 : decode cX8_laysWeights 57 = .ok (.iload_n 3, 1) := by decide +kernel
theorem dX8_laysWeights_58 : decode cX8_laysWeights 58 = .ok (.lload 5, 2) := by decide +kernel
theorem dX8_laysWeights_60 : decode cX8_laysWeights 60 = .ok (.lload 7, 2) := by decide +kernel
theorem dX8_laysWeights_62 : decode cX8_laysWeights 62 = .ok (.lcmp, 1) := by decide +kernel
theorem dX8_laysWeights_63 : decode cX8_laysWeights 63 = .ok (.ifCond .le 8, 3) := by decide +kernel
theorem dX8_laysWeights_66 : decode cX8_laysWeights 66 = .ok (.lload 5, 2) := by decide +kernel
theorem dX8_laysWeights_68 : decode cX8_laysWeights 68 = .ok (.goto 5, 3) := by decide +kernel
theorem dX8_laysWeights_71 : decode cX8_laysWeights 71 = .ok (.lload 7, 2) := by decide +kernel
theorem dX8_laysWeights_73 : decode cX8_laysWeights 73 = .ok (.lastore, 1) := by decide +kernel
theorem dX8_laysWeights_74 : decode cX8_laysWeights 74 = .ok (.goto 91, 3) := by decide +kernel
theorem dX8_laysWeights_77 : decode cX8_laysWeights 77 = .ok (.iload 4, 2) := by decide +kernel
theorem dX8_laysWeights_79 : decode cX8_laysWeights 79 = .ok (.iconst 2, 1) := by decide +kernel
theorem dX8_laysWeights_80 : decode cX8_laysWeights 80 = .ok (.if_icmp .ne 21, 3) := by decide +kernel
theorem dX8_laysWeights_83 : decode cX8_laysWeights 83 = .ok (.aload_n 0, 1) := by decide +kernel
theorem dX8_laysWeights_84 : decode cX8_laysWeights 84 = .ok (.iload_n 1, 1) := by decide +kernel
theorem dX8_laysWeights_85 : decode cX8_laysWeights 85 = .ok (.iload_n 3, 1) := by decide +kernel
theorem dX8_laysWeights_86 : decode cX8_laysWeights 86 = .ok (.iconst 0, 1) := by decide +kernel
theorem dX8_laysWeights_87 : decode cX8_laysWeights 87 = .ok (.invokevirtual 251, 3) := by decide +kernel
theorem dX8_laysWeights_90 : decode cX8_laysWeights 90 = .ok (.aload_n 0, 1) := by decide +kernel
theorem dX8_laysWeights_91 : decode cX8_laysWeights 91 = .ok (.iload_n 1, 1) := by decide +kernel
theorem dX8_laysWeights_92 : decode cX8_laysWeights 92 = .ok (.iload_n 3, 1) := by decide +kernel
theorem dX8_laysWeights_93 : decode cX8_laysWeights 93 = .ok (.iconst 1, 1) := by decide +kernel
theorem dX8_laysWeights_94 : decode cX8_laysWeights 94 = .ok (.invokevirtual 251, 3) := by decide +kernel
theorem dX8_laysWeights_97 : decode cX8_laysWeights 97 = .ok (.lmul, 1) := by decide +kernel
theorem dX8_laysWeights_98 : decode cX8_laysWeights 98 = .ok (.goto 46, 3) := by decide +kernel
theorem dX8_laysWeights_101 : decode cX8_laysWeights 101 = .ok (.iload 4, 2) := by decide +kernel
theorem dX8_laysWeights_103 : decode cX8_laysWeights 103 = .ok (.iconst 3, 1) := by decide +kernel
theorem dX8_laysWeights_104 : decode cX8_laysWeights 104 = .ok (.if_icmp .ne 25, 3) := by decide +kernel
theorem dX8_laysWeights_107 : decode cX8_laysWeights 107 = .ok (.ldc2_w 255, 3) := by decide +kernel
theorem dX8_laysWeights_110 : decode cX8_laysWeights 110 = .ok (.aload_n 0, 1) := by decide +kernel
theorem dX8_laysWeights_111 : decode cX8_laysWeights 111 = .ok (.iload_n 1, 1) := by decide +kernel
theorem dX8_laysWeights_112 : decode cX8_laysWeights 112 = .ok (.iload_n 3, 1) := by decide +kernel
theorem dX8_laysWeights_113 : decode cX8_laysWeights 113 = .ok (.iconst 2, 1) := by decide +kernel
theorem dX8_laysWeights_114 : decode cX8_laysWeights 114 = .ok (.invokevirtual 251, 3) := by decide +kernel
theorem dX8_laysWeights_117 : decode cX8_laysWeights 117 = .ok (.aload_n 0, 1) := by decide +kernel
theorem dX8_laysWeights_118 : decode cX8_laysWeights 118 = .ok (.iload_n 1, 1) := by decide +kernel
theorem dX8_laysWeights_119 : decode cX8_laysWeights 119 = .ok (.iload_n 3, 1) := by decide +kernel
theorem dX8_laysWeights_120 : decode cX8_laysWeights 120 = .ok (.iconst 3, 1) := by decide +kernel
theorem dX8_laysWeights_121 : decode cX8_laysWeights 121 = .ok (.invokevirtual 251, 3) := by decide +kernel
theorem dX8_laysWeights_124 : decode cX8_laysWeights 124 = .ok (.ladd, 1) := by decide +kernel
theorem dX8_laysWeights_125 : decode cX8_laysWeights 125 = .ok (.lmul, 1) := by decide +kernel
theorem dX8_laysWeights_126 : decode cX8_laysWeights 126 = .ok (.goto 18, 3) := by decide +kernel
theorem dX8_laysWeights_129 : decode cX8_laysWeights 129 = .ok (.aload_n 0, 1) := by decide +kernel
theorem dX8_laysWeights_130 : decode cX8_laysWeights 130 = .ok (.iload_n 1, 1) := by decide +kernel
theorem dX8_laysWeights_131 : decode cX8_laysWeights 131 = .ok (.iload_n 3, 1) := by decide +kernel
theorem dX8_laysWeights_132 : decode cX8_laysWeights 132 = .ok (.iconst 0, 1) := by decide +kernel
theorem dX8_laysWeights_133 : decode cX8_laysWeights 133 = .ok (.invokevirtual 251, 3) := by decide +kernel
theorem dX8_laysWeights_136 : decode cX8_laysWeights 136 = .ok (.aload_n 0, 1) := by decide +kernel
theorem dX8_laysWeights_137 : decode cX8_laysWeights 137 = .ok (.iload_n 1, 1) := by decide +kernel
theorem dX8_laysWeights_138 : decode cX8_laysWeights 138 = .ok (.iload_n 3, 1) := by decide +kernel
theorem dX8_laysWeights_139 : decode cX8_laysWeights 139 = .ok (.iconst 1, 1) := by decide +kernel
theorem dX8_laysWeights_140 : decode cX8_laysWeights 140 = .ok (.invokevirtual 251, 3) := by decide +kernel
theorem dX8_laysWeights_143 : decode cX8_laysWeights 143 = .ok (.ladd, 1) := by decide +kernel
theorem dX8_laysWeights_144 : decode cX8_laysWeights 144 = .ok (.lstore 5, 2) := by decide +kernel
theorem dX8_laysWeights_146 : decode cX8_laysWeights 146 = .ok (.aload_n 0, 1) := by decide +kernel
theorem dX8_laysWeights_147 : decode cX8_laysWeights 147 = .ok (.getfield 46, 3) := by decide +kernel
theorem dX8_laysWeights_150 : decode cX8_laysWeights 150 = .ok (.iload_n 3, 1) := by decide +kernel
theorem dX8_laysWeights_151 : decode cX8_laysWeights 151 = .ok (.lload 5, 2) := by decide +kernel
theorem dX8_laysWeights_153 : decode cX8_laysWeights 153 = .ok (.lconst 1, 1) := by decide +kernel
theorem dX8_laysWeights_154 : decode cX8_laysWeights 154 = .ok (.aload_n 0, 1) := by decide +kernel
theorem dX8_laysWeights_155 : decode cX8_laysWeights 155 = .ok (.getfield 22, 3) := by decide +kernel
theorem dX8_laysWeights_158 : decode cX8_laysWeights 158 = .ok (.iload_n 1, 1) := by decide +kernel
theorem dX8_laysWeights_159 : decode cX8_laysWeights 159 = .ok (.iload_n 3, 1) := by decide +kernel
theorem dX8_laysWeights_160 : decode cX8_laysWeights 160 = .ok (.iadd, 1) := by decide +kernel
theorem dX8_laysWeights_161 : decode cX8_laysWeights 161 = .ok (.iaload, 1) := by decide +kernel
theorem dX8_laysWeights_162 : decode cX8_laysWeights 162 = .ok (.lshl, 1) := by decide +kernel
theorem dX8_laysWeights_163 : decode cX8_laysWeights 163 = .ok (.ladd, 1) := by decide +kernel
theorem dX8_laysWeights_164 : decode cX8_laysWeights 164 = .ok (.lastore, 1) := by decide +kernel
theorem dX8_laysWeights_165 : decode cX8_laysWeights 165 = .ok (.aload_n 0, 1) := by decide +kernel
theorem dX8_laysWeights_166 : decode cX8_laysWeights 166 = .ok (.getfield 46, 3) := by decide +kernel
theorem dX8_laysWeights_169 : decode cX8_laysWeights 169 = .ok (.iload_n 3, 1) := by decide +kernel
theorem dX8_laysWeights_170 : decode cX8_laysWeights 170 = .ok (.laload, 1) := by decide +kernel
theorem dX8_laysWeights_171 : decode cX8_laysWeights 171 = .ok (.ldc2_w 257, 3) := by decide +kernel
theorem dX8_laysWeights_174 : decode cX8_laysWeights 174 = .ok (.lcmp, 1) := by decide +kernel
theorem dX8_laysWeights_175 : decode cX8_laysWeights 175 = .ok (.ifCond .le 5, 3) := by decide +kernel
theorem dX8_laysWeights_178 : decode cX8_laysWeights 178 = .ok (.iconst 0, 1) := by decide +kernel
theorem dX8_laysWeights_179 : decode cX8_laysWeights 179 = .ok (.ireturn, 1) := by decide +kernel
theorem dX8_laysWeights_180 : decode cX8_laysWeights 180 = .ok (.iinc 3 1, 3) := by decide +kernel
theorem dX8_laysWeights_183 : decode cX8_laysWeights 183 = .ok (.goto (-181), 3) := by decide +kernel
theorem dX8_laysWeights_186 : decode cX8_laysWeights 186 = .ok (.iconst 1, 1) := by decide +kernel
theorem dX8_laysWeights_187 : decode cX8_laysWeights 187 = .ok (.ireturn, 1) := by decide +kernel
theorem dX8_fineOf_0 : decode cX8_fineOf 0 = .ok (.iconst 4, 1) := by decide +kernel
theorem dX8_fineOf_1 : decode cX8_fineOf 1 = .ok (.iload_n 1, 1) := by decide +kernel
theorem dX8_fineOf_2 : decode cX8_fineOf 2 = .ok (.imul, 1) := by decide +kernel
theorem dX8_fineOf_3 : decode cX8_fineOf 3 = .ok (.iload_n 2, 1) := by decide +kernel
theorem dX8_fineOf_4 : decode cX8_fineOf 4 = .ok (.iadd, 1) := by decide +kernel
theorem dX8_fineOf_5 : decode cX8_fineOf 5 = .ok (.istore_n 3, 1) := by decide +kernel
theorem dX8_fineOf_6 : decode cX8_fineOf 6 = .ok (.aload_n 0, 1) := by decide +kernel
theorem dX8_fineOf_7 : decode cX8_fineOf 7 = .ok (.getfield 31, 3) := by decide +kernel
theorem dX8_fineOf_10 : decode cX8_fineOf 10 = .ok (.iload_n 3, 1) := by decide +kernel
theorem dX8_fineOf_11 : decode cX8_fineOf 11 = .ok (.iaload, 1) := by decide +kernel
theorem dX8_fineOf_12 : decode cX8_fineOf 12 = .ok (.bipush (-2), 2) := by decide +kernel
theorem dX8_fineOf_14 : decode cX8_fineOf 14 = .ok (.if_icmp .eq 15, 3) := by decide +kernel
theorem dX8_fineOf_17 : decode cX8_fineOf 17 = .ok (.aload_n 0, 1) := by decide +kernel
theorem dX8_fineOf_18 : decode cX8_fineOf 18 = .ok (.getfield 50, 3) := by decide +kernel
theorem dX8_fineOf_21 : decode cX8_fineOf 21 = .ok (.aload_n 0, 1) := by decide +kernel
theorem dX8_fineOf_22 : decode cX8_fineOf 22 = .ok (.getfield 31, 3) := by decide +kernel
theorem dX8_fineOf_25 : decode cX8_fineOf 25 = .ok (.iload_n 3, 1) := by decide +kernel
theorem dX8_fineOf_26 : decode cX8_fineOf 26 = .ok (.iaload, 1) := by decide +kernel
theorem dX8_fineOf_27 : decode cX8_fineOf 27 = .ok (.iaload, 1) := by decide +kernel
theorem dX8_fineOf_28 : decode cX8_fineOf 28 = .ok (.ireturn, 1) := by decide +kernel
theorem dX8_fineOf_29 : decode cX8_fineOf 29 = .ok (.aload_n 0, 1) := by decide +kernel
theorem dX8_fineOf_30 : decode cX8_fineOf 30 = .ok (.getfield 34, 3) := by decide +kernel
theorem dX8_fineOf_33 : decode cX8_fineOf 33 = .ok (.iload_n 3, 1) := by decide +kernel
theorem dX8_fineOf_34 : decode cX8_fineOf 34 = .ok (.iaload, 1) := by decide +kernel
theorem dX8_fineOf_35 : decode cX8_fineOf 35 = .ok (.istore 4, 2) := by decide +kernel
theorem dX8_fineOf_37 : decode cX8_fineOf 37 = .ok (.iconst 0, 1) := by decide +kernel
theorem dX8_fineOf_38 : decode cX8_fineOf 38 = .ok (.istore 5, 2) := by decide +kernel
theorem dX8_fineOf_40 : decode cX8_fineOf 40 = .ok (.iload 5, 2) := by decide +kernel
theorem dX8_fineOf_42 : decode cX8_fineOf 42 = .ok (.bipush 8, 2) := by decide +kernel
theorem dX8_fineOf_44 : decode cX8_fineOf 44 = .ok (.if_icmp .ge 22, 3) := by decide +kernel
theorem dX8_fineOf_47 : decode cX8_fineOf 47 = .ok (.iload 4, 2) := by decide +kernel
theorem dX8_fineOf_49 : decode cX8_fineOf 49 = .ok (.iconst 2, 1) := by decide +kernel
theorem dX8_fineOf_50 : decode cX8_fineOf 50 = .ok (.irem, 1) := by decide +kernel
theorem dX8_fineOf_51 : decode cX8_fineOf 51 = .ok (.ifCond .ne 15, 3) := by decide +kernel
theorem dX8_fineOf_54 : decode cX8_fineOf 54 = .ok (.iload 4, 2) := by decide +kernel
theorem dX8_fineOf_56 : decode cX8_fineOf 56 = .ok (.iconst 2, 1) := by decide +kernel
theorem dX8_fineOf_57 : decode cX8_fineOf 57 = .ok (.idiv, 1) := by decide +kernel
theorem dX8_fineOf_58 : decode cX8_fineOf 58 = .ok (.istore 4, 2) := by decide +kernel
theorem dX8_fineOf_60 : decode cX8_fineOf 60 = .ok (.iinc 5 1, 3) := by decide +kernel
theorem dX8_fineOf_63 : decode cX8_fineOf 63 = .ok (.goto (-23), 3) := by decide +kernel
theorem dX8_fineOf_66 : decode cX8_fineOf 66 = .ok (.iload 5, 2) := by decide +kernel
theorem dX8_fineOf_68 : decode cX8_fineOf 68 = .ok (.ireturn, 1) := by decide +kernel
theorem dX8_lesser_0 : decode cX8_lesser 0 = .ok (.iload_n 0, 1) := by decide +kernel
theorem dX8_lesser_1 : decode cX8_lesser 1 = .ok (.iload_n 1, 1) := by decide +kernel
theorem dX8_lesser_2 : decode cX8_lesser 2 = .ok (.if_icmp .ge 7, 3) := by decide +kernel
theorem dX8_lesser_5 : decode cX8_lesser 5 = .ok (.iload_n 0, 1) := by decide +kernel
theorem dX8_lesser_6 : decode cX8_lesser 6 = .ok (.goto 4, 3) := by decide +kernel
theorem dX8_lesser_9 : decode cX8_lesser 9 = .ok (.iload_n 1, 1) := by decide +kernel
theorem dX8_lesser_10 : decode cX8_lesser 10 = .ok (.ireturn, 1) := by decide +kernel
theorem dX8_laysFine_0 : decode cX8_laysFine 0 = .ok (.iconst 0, 1) := by decide +kernel
theorem dX8_laysFine_1 : decode cX8_laysFine 1 = .ok (.istore_n 1, 1) := by decide +kernel
theorem dX8_laysFine_2 : decode cX8_laysFine 2 = .ok (.iload_n 1, 1) := by decide +kernel
theorem dX8_laysFine_3 : decode cX8_laysFine 3 = .ok (.aload_n 0, 1) := by decide +kernel
theorem dX8_laysFine_4 : decode cX8_laysFine 4 = .ok (.getfield 259, 3) := by decide +kernel
theorem dX8_laysFine_7 : decode cX8_laysFine 7 = .ok (.if_icmp .ge 141, 3) := by decide +kernel
theorem dX8_laysFine_10 : decode cX8_laysFine 10 = .ok (.aload_n 0, 1) := by decide +kernel
theorem dX8_laysFine_11 : decode cX8_laysFine 11 = .ok (.getfield 19, 3) := by decide +kernel
theorem dX8_laysFine_14 : decode cX8_laysFine 14 = .ok (.iload_n 1, 1) := by decide +kernel
theorem dX8_laysFine_15 : decode cX8_laysFine 15 = .ok (.iaload, 1) := by decide +kernel
theorem dX8_laysFine_16 : decode cX8_laysFine 16 = .ok (.invokestatic 248, 3) := by decide +kernel
theorem dX8_laysFine_19 : decode cX8_laysFine 19 = .ok (.ifCond .eq 20, 3) := by decide +kernel
theorem dX8_laysFine_22 : decode cX8_laysFine 22 = .ok (.aload_n 0, 1) := by decide +kernel
theorem dX8_laysFine_23 : decode cX8_laysFine 23 = .ok (.getfield 53, 3) := by decide +kernel
theorem dX8_laysFine_26 : decode cX8_laysFine 26 = .ok (.iload_n 1, 1) := by decide +kernel
theorem dX8_laysFine_27 : decode cX8_laysFine 27 = .ok (.iconst 0, 1) := by decide +kernel
theorem dX8_laysFine_28 : decode cX8_laysFine 28 = .ok (.iastore, 1) := by decide +kernel
theorem dX8_laysFine_29 : decode cX8_laysFine 29 = .ok (.aload_n 0, 1) := by decide +kernel
theorem dX8_laysFine_30 : decode cX8_laysFine 30 = .ok (.getfield 50, 3) := by decide +kernel
theorem dX8_laysFine_33 : decode cX8_laysFine 33 = .ok (.iload_n 1, 1) := by decide +kernel
theorem dX8_laysFine_34 : decode cX8_laysFine 34 = .ok (.iconst 0, 1) := by decide +kernel
theorem dX8_laysFine_35 : decode cX8_laysFine 35 = .ok (.iastore, 1) := by decide +kernel
theorem dX8_laysFine_36 : decode cX8_laysFine 36 = .ok (.goto 106, 3) := by decide +kernel
theorem dX8_laysFine_39 : decode cX8_laysFine 39 = .ok (.aload_n 0, 1) := by decide +kernel
theorem dX8_laysFine_40 : decode cX8_laysFine 40 = .ok (.getfield 19, 3) := by decide +kernel
theorem dX8_laysFine_43 : decode cX8_laysFine 43 = .ok (.iload_n 1, 1) := by decide +kernel
theorem dX8_laysFine_44 : decode cX8_laysFine 44 = .ok (.iaload, 1) := by decide +kernel
theorem dX8_laysFine_45 : decode cX8_laysFine 45 = .ok (.iconst 3, 1) := by decide +kernel
theorem dX8_laysFine_46 : decode cX8_laysFine 46 = .ok (.if_icmp .ne 7, 3) := by decide +kernel
theorem dX8_laysFine_49 : decode cX8_laysFine 49 = .ok (.iconst 2, 1) := by decide +kernel
theorem dX8_laysFine_50 : decode cX8_laysFine 50 = .ok (.goto 4, 3) := by decide +kernel
theorem dX8_laysFine_53 : decode cX8_laysFine 53 = .ok (.iconst 0, 1) := by decide +kernel
theorem dX8_laysFine_54 : decode cX8_laysFine 54 = .ok (.istore_n 2, 1) := by decide +kernel
theorem dX8_laysFine_55 : decode cX8_laysFine 55 = .ok (.aload_n 0, 1) := by decide +kernel
theorem dX8_laysFine_56 : decode cX8_laysFine 56 = .ok (.iload_n 1, 1) := by decide +kernel
theorem dX8_laysFine_57 : decode cX8_laysFine 57 = .ok (.iload_n 2, 1) := by decide +kernel
theorem dX8_laysFine_58 : decode cX8_laysFine 58 = .ok (.invokevirtual 262, 3) := by decide +kernel
theorem dX8_laysFine_61 : decode cX8_laysFine 61 = .ok (.istore_n 3, 1) := by decide +kernel
theorem dX8_laysFine_62 : decode cX8_laysFine 62 = .ok (.aload_n 0, 1) := by decide +kernel
theorem dX8_laysFine_63 : decode cX8_laysFine 63 = .ok (.iload_n 1, 1) := by decide +kernel
theorem dX8_laysFine_64 : decode cX8_laysFine 64 = .ok (.iload_n 2, 1) := by decide +kernel
theorem dX8_laysFine_65 : decode cX8_laysFine 65 = .ok (.iconst 1, 1) := by decide +kernel
theorem dX8_laysFine_66 : decode cX8_laysFine 66 = .ok (.iadd, 1) := by decide +kernel
theorem dX8_laysFine_67 : decode cX8_laysFine 67 = .ok (.invokevirtual 262, 3) := by decide +kernel
theorem dX8_laysFine_70 : decode cX8_laysFine 70 = .ok (.istore 4, 2) := by decide +kernel
theorem dX8_laysFine_72 : decode cX8_laysFine 72 = .ok (.aload_n 0, 1) := by decide +kernel
theorem dX8_laysFine_73 : decode cX8_laysFine 73 = .ok (.getfield 53, 3) := by decide +kernel
theorem dX8_laysFine_76 : decode cX8_laysFine 76 = .ok (.iload_n 1, 1) := by decide +kernel
theorem dX8_laysFine_77 : decode cX8_laysFine 77 = .ok (.aload_n 0, 1) := by decide +kernel
theorem dX8_laysFine_78 : decode cX8_laysFine 78 = .ok (.getfield 19, 3) := by decide +kernel
theorem dX8_laysFine_81 : decode cX8_laysFine 81 = .ok (.iload_n 1, 1) := by decide +kernel
theorem dX8_laysFine_82 : decode cX8_laysFine 82 = .ok (.iaload, 1) := by decide +kernel
theorem dX8_laysFine_83 : decode cX8_laysFine 83 = .ok (.iconst 2, 1) := by decide +kernel
theorem dX8_laysFine_84 : decode cX8_laysFine 84 = .ok (.if_icmp .ne 15, 3) := by decide +kernel
theorem dX8_laysFine_87 : decode cX8_laysFine 87 = .ok (.bipush 8, 2) := by decide +kernel
theorem dX8_laysFine_89 : decode cX8_laysFine 89 = .ok (.iload_n 3, 1) := by decide +kernel
theorem dX8_laysFine_90 : decode cX8_laysFine 90 = .ok (.iload 4, 2) := by decide +kernel
theorem dX8_laysFine_92 : decode cX8_laysFine 92 = .ok (.iadd, 1) := by decide +kernel
theorem dX8_laysFine_93 : decode cX8_laysFine 93 = .ok (.invokestatic 266, 3) := by decide +kernel
theorem dX8_laysFine_96 : decode cX8_laysFine 96 = .ok (.goto 9, 3) := by decide +kernel
theorem dX8_laysFine_99 : decode cX8_laysFine 99 = .ok (.iload_n 3, 1) := by decide +kernel
theorem dX8_laysFine_100 : decode cX8_laysFine 100 = .ok (.iload 4, 2) := by decide +kernel
theorem dX8_laysFine_102 : decode cX8_laysFine 102 = .ok (.invokestatic 266, 3) := by decide +kernel
theorem dX8_laysFine_105 : decode cX8_laysFine 105 = .ok (.iastore, 1) := by decide +kernel
theorem dX8_laysFine_106 : decode cX8_laysFine 106 = .ok (.aload_n 0, 1) := by decide +kernel
theorem dX8_laysFine_107 : decode cX8_laysFine 107 = .ok (.getfield 50, 3) := by decide +kernel
theorem dX8_laysFine_110 : decode cX8_laysFine 110 = .ok (.iload_n 1, 1) := by decide +kernel
theorem dX8_laysFine_111 : decode cX8_laysFine 111 = .ok (.aload_n 0, 1) := by decide +kernel
theorem dX8_laysFine_112 : decode cX8_laysFine 112 = .ok (.getfield 53, 3) := by decide +kernel
theorem dX8_laysFine_115 : decode cX8_laysFine 115 = .ok (.iload_n 1, 1) := by decide +kernel
theorem dX8_laysFine_116 : decode cX8_laysFine 116 = .ok (.iaload, 1) := by decide +kernel
theorem dX8_laysFine_117 : decode cX8_laysFine 117 = .ok (.aload_n 0, 1) := by decide +kernel
theorem dX8_laysFine_118 : decode cX8_laysFine 118 = .ok (.getfield 22, 3) := by decide +kernel
theorem dX8_laysFine_121 : decode cX8_laysFine 121 = .ok (.iload_n 1, 1) := by decide +kernel
theorem dX8_laysFine_122 : decode cX8_laysFine 122 = .ok (.iaload, 1) := by decide +kernel
theorem dX8_laysFine_123 : decode cX8_laysFine 123 = .ok (.if_icmp .le 12, 3) := by decide +kernel
theorem dX8_laysFine_126 : decode cX8_laysFine 126 = .ok (.aload_n 0, 1) := by decide +kernel
theorem dX8_laysFine_127 : decode cX8_laysFine 127 = .ok (.getfield 53, 3) := by decide +kernel
theorem dX8_laysFine_130 : decode cX8_laysFine 130 = .ok (.iload_n 1, 1) := by decide +kernel
theorem dX8_laysFine_131 : decode cX8_laysFine 131 = .ok (.iaload, 1) := by decide +kernel
theorem dX8_laysFine_132 : decode cX8_laysFine 132 = .ok (.goto 9, 3) := by decide +kernel
theorem dX8_laysFine_135 : decode cX8_laysFine 135 = .ok (.aload_n 0, 1) := by decide +kernel
theorem dX8_laysFine_136 : decode cX8_laysFine 136 = .ok (.getfield 22, 3) := by decide +kernel
theorem dX8_laysFine_139 : decode cX8_laysFine 139 = .ok (.iload_n 1, 1) := by decide +kernel
theorem dX8_laysFine_140 : decode cX8_laysFine 140 = .ok (.iaload, 1) := by decide +kernel
theorem dX8_laysFine_141 : decode cX8_laysFine 141 = .ok (.iastore, 1) := by decide +kernel
theorem dX8_laysFine_142 : decode cX8_laysFine 142 = .ok (.iinc 1 1, 3) := by decide +kernel
theorem dX8_laysFine_145 : decode cX8_laysFine 145 = .ok (.goto (-143), 3) := by decide +kernel
theorem dX8_laysFine_148 : decode cX8_laysFine 148 = .ok (.return_, 1) := by decide +kernel
theorem dX8_program_0 : decode cX8_program 0 = .ok (.aload_n 0, 1) := by decide +kernel
theorem dX8_program_1 : decode cX8_program 1 = .ok (.iload_n 1, 1) := by decide +kernel
theorem dX8_program_2 : decode cX8_program 2 = .ok (.i2l, 1) := by decide +kernel
theorem dX8_program_3 : decode cX8_program 3 = .ok (.lconst 0, 1) := by decide +kernel
theorem dX8_program_4 : decode cX8_program 4 = .ok (.aload_n 0, 1) := by decide +kernel
theorem dX8_program_5 : decode cX8_program 5 = .ok (.getfield 113, 3) := by decide +kernel
theorem dX8_program_8 : decode cX8_program 8 = .ok (.i2l, 1) := by decide +kernel
theorem dX8_program_9 : decode cX8_program 9 = .ok (.invokestatic 140, 3) := by decide +kernel
theorem dX8_program_12 : decode cX8_program 12 = .ok (.ifCond .eq 7, 3) := by decide +kernel
theorem dX8_program_15 : decode cX8_program 15 = .ok (.iconst 0, 1) := by decide +kernel
theorem dX8_program_16 : decode cX8_program 16 = .ok (.goto 4, 3) := by decide +kernel
theorem dX8_program_19 : decode cX8_program 19 = .ok (.iconst 2, 1) := by decide +kernel
theorem dX8_program_20 : decode cX8_program 20 = .ok (.invokevirtual 269, 3) := by decide +kernel
theorem dX8_program_23 : decode cX8_program 23 = .ok (.ifCond .eq 5, 3) := by decide +kernel
theorem dX8_program_26 : decode cX8_program 26 = .ok (.iconst (-1), 1) := by decide +kernel
theorem dX8_program_27 : decode cX8_program 27 = .ok (.ireturn, 1) := by decide +kernel
theorem dX8_program_28 : decode cX8_program 28 = .ok (.aload_n 0, 1) := by decide +kernel
theorem dX8_program_29 : decode cX8_program 29 = .ok (.iconst 0, 1) := by decide +kernel
theorem dX8_program_30 : decode cX8_program 30 = .ok (.putfield 113, 3) := by decide +kernel
theorem dX8_program_33 : decode cX8_program 33 = .ok (.aload_n 0, 1) := by decide +kernel
theorem dX8_program_34 : decode cX8_program 34 = .ok (.iconst 0, 1) := by decide +kernel
theorem dX8_program_35 : decode cX8_program 35 = .ok (.putfield 272, 3) := by decide +kernel
theorem dX8_program_38 : decode cX8_program 38 = .ok (.aload_n 0, 1) := by decide +kernel
theorem dX8_program_39 : decode cX8_program 39 = .ok (.iload_n 1, 1) := by decide +kernel
theorem dX8_program_40 : decode cX8_program 40 = .ok (.invokevirtual 275, 3) := by decide +kernel
theorem dX8_program_43 : decode cX8_program 43 = .ok (.ifCond .ne 25, 3) := by decide +kernel
theorem dX8_program_46 : decode cX8_program 46 = .ok (.aload_n 0, 1) := by decide +kernel
theorem dX8_program_47 : decode cX8_program 47 = .ok (.aload_n 0, 1) := by decide +kernel
theorem dX8_program_48 : decode cX8_program 48 = .ok (.getfield 161, 3) := by decide +kernel
theorem dX8_program_51 : decode cX8_program 51 = .ok (.putfield 272, 3) := by decide +kernel
theorem dX8_program_54 : decode cX8_program 54 = .ok (.aload_n 0, 1) := by decide +kernel
theorem dX8_program_55 : decode cX8_program 55 = .ok (.aload_n 0, 1) := by decide +kernel
theorem dX8_program_56 : decode cX8_program 56 = .ok (.getfield 164, 3) := by decide +kernel
theorem dX8_program_59 : decode cX8_program 59 = .ok (.putfield 11, 3) := by decide +kernel
theorem dX8_program_62 : decode cX8_program 62 = .ok (.aload_n 0, 1) := by decide +kernel
theorem dX8_program_63 : decode cX8_program 63 = .ok (.iconst 4, 1) := by decide +kernel
theorem dX8_program_64 : decode cX8_program 64 = .ok (.invokevirtual 278, 3) := by decide +kernel
theorem dX8_program_67 : decode cX8_program 67 = .ok (.ireturn, 1) := by decide +kernel
theorem dX8_program_68 : decode cX8_program 68 = .ok (.aload_n 0, 1) := by decide +kernel
theorem dX8_program_69 : decode cX8_program 69 = .ok (.aload_n 0, 1) := by decide +kernel
theorem dX8_program_70 : decode cX8_program 70 = .ok (.getfield 199, 3) := by decide +kernel
theorem dX8_program_73 : decode cX8_program 73 = .ok (.putfield 259, 3) := by decide +kernel
theorem dX8_program_76 : decode cX8_program 76 = .ok (.iconst 0, 1) := by decide +kernel
theorem dX8_program_77 : decode cX8_program 77 = .ok (.istore_n 2, 1) := by decide +kernel
theorem dX8_program_78 : decode cX8_program 78 = .ok (.iload_n 2, 1) := by decide +kernel
theorem dX8_program_79 : decode cX8_program 79 = .ok (.aload_n 0, 1) := by decide +kernel
theorem dX8_program_80 : decode cX8_program 80 = .ok (.getfield 259, 3) := by decide +kernel
theorem dX8_program_83 : decode cX8_program 83 = .ok (.if_icmp .ge 140, 3) := by decide +kernel
theorem dX8_program_86 : decode cX8_program 86 = .ok (.aload_n 0, 1) := by decide +kernel
theorem dX8_program_87 : decode cX8_program 87 = .ok (.getfield 19, 3) := by decide +kernel
theorem dX8_program_90 : decode cX8_program 90 = .ok (.iload_n 2, 1) := by decide +kernel
theorem dX8_program_91 : decode cX8_program 91 = .ok (.aload_n 0, 1) := by decide +kernel
theorem dX8_program_92 : decode cX8_program 92 = .ok (.getfield 19, 3) := by decide +kernel
theorem dX8_program_95 : decode cX8_program 95 = .ok (.bipush 15, 2) := by decide +kernel
theorem dX8_program_97 : decode cX8_program 97 = .ok (.iload_n 2, 1) := by decide +kernel
theorem dX8_program_98 : decode cX8_program 98 = .ok (.iadd, 1) := by decide +kernel
theorem dX8_program_99 : decode cX8_program 99 = .ok (.iaload, 1) := by decide +kernel
theorem dX8_program_100 : decode cX8_program 100 = .ok (.iastore, 1) := by decide +kernel
theorem dX8_program_101 : decode cX8_program 101 = .ok (.aload_n 0, 1) := by decide +kernel
theorem dX8_program_102 : decode cX8_program 102 = .ok (.getfield 22, 3) := by decide +kernel
theorem dX8_program_105 : decode cX8_program 105 = .ok (.iload_n 2, 1) := by decide +kernel
theorem dX8_program_106 : decode cX8_program 106 = .ok (.aload_n 0, 1) := by decide +kernel
theorem dX8_program_107 : decode cX8_program 107 = .ok (.getfield 22, 3) := by decide +kernel
theorem dX8_program_110 : decode cX8_program 110 = .ok (.bipush 15, 2) := by decide +kernel
theorem dX8_program_112 : decode cX8_program 112 = .ok (.iload_n 2, 1) := by decide +kernel
theorem dX8_program_113 : decode cX8_program 113 = .ok (.iadd, 1) := by decide +kernel
theorem dX8_program_114 : decode cX8_program 114 = .ok (.iaload, 1) := by decide +kernel
theorem dX8_program_115 : decode cX8_program 115 = .ok (.iastore, 1) := by decide +kernel
theorem dX8_program_116 : decode cX8_program 116 = .ok (.aload_n 0, 1) := by decide +kernel
theorem dX8_program_117 : decode cX8_program 117 = .ok (.getfield 25, 3) := by decide +kernel
theorem dX8_program_120 : decode cX8_program 120 = .ok (.iload_n 2, 1) := by decide +kernel
theorem dX8_program_121 : decode cX8_program 121 = .ok (.aload_n 0, 1) := by decide +kernel
theorem dX8_program_122 : decode cX8_program 122 = .ok (.getfield 25, 3) := by decide +kernel
theorem dX8_program_125 : decode cX8_program 125 = .ok (.bipush 15, 2) := by decide +kernel
theorem dX8_program_127 : decode cX8_program 127 = .ok (.iload_n 2, 1) := by decide +kernel
theorem dX8_program_128 : decode cX8_program 128 = .ok (.iadd, 1) := by decide +kernel
theorem dX8_program_129 : decode cX8_program 129 = .ok (.iaload, 1) := by decide +kernel
theorem dX8_program_130 : decode cX8_program 130 = .ok (.iastore, 1) := by decide +kernel
theorem dX8_program_131 : decode cX8_program 131 = .ok (.aload_n 0, 1) := by decide +kernel
theorem dX8_program_132 : decode cX8_program 132 = .ok (.getfield 28, 3) := by decide +kernel
theorem dX8_program_135 : decode cX8_program 135 = .ok (.iload_n 2, 1) := by decide +kernel
theorem dX8_program_136 : decode cX8_program 136 = .ok (.aload_n 0, 1) := by decide +kernel
theorem dX8_program_137 : decode cX8_program 137 = .ok (.getfield 28, 3) := by decide +kernel
theorem dX8_program_140 : decode cX8_program 140 = .ok (.bipush 15, 2) := by decide +kernel
theorem dX8_program_142 : decode cX8_program 142 = .ok (.iload_n 2, 1) := by decide +kernel
theorem dX8_program_143 : decode cX8_program 143 = .ok (.iadd, 1) := by decide +kernel
theorem dX8_program_144 : decode cX8_program 144 = .ok (.iaload, 1) := by decide +kernel
theorem dX8_program_145 : decode cX8_program 145 = .ok (.iastore, 1) := by decide +kernel
theorem dX8_program_146 : decode cX8_program 146 = .ok (.aload_n 0, 1) := by decide +kernel
theorem dX8_program_147 : decode cX8_program 147 = .ok (.getfield 37, 3) := by decide +kernel
theorem dX8_program_150 : decode cX8_program 150 = .ok (.iload_n 2, 1) := by decide +kernel
theorem dX8_program_151 : decode cX8_program 151 = .ok (.aload_n 0, 1) := by decide +kernel
theorem dX8_program_152 : decode cX8_program 152 = .ok (.getfield 25, 3) := by decide +kernel
theorem dX8_program_155 : decode cX8_program 155 = .ok (.iload_n 2, 1) := by decide +kernel
theorem dX8_program_156 : decode cX8_program 156 = .ok (.iaload, 1) := by decide +kernel
theorem dX8_program_157 : decode cX8_program 157 = .ok (.iastore, 1) := by decide +kernel
theorem dX8_program_158 : decode cX8_program 158 = .ok (.iconst 0, 1) := by decide +kernel
theorem dX8_program_159 : decode cX8_program 159 = .ok (.istore_n 3, 1) := by decide +kernel
theorem dX8_program_160 : decode cX8_program 160 = .ok (.iload_n 3, 1) := by decide +kernel
theorem dX8_program_161 : decode cX8_program 161 = .ok (.iconst 4, 1) := by decide +kernel
theorem dX8_program_162 : decode cX8_program 162 = .ok (.if_icmp .ge 55, 3) := by decide +kernel
theorem dX8_program_165 : decode cX8_program 165 = .ok (.aload_n 0, 1) := by decide +kernel
theorem dX8_program_166 : decode cX8_program 166 = .ok (.getfield 31, 3) := by decide +kernel
theorem dX8_program_169 : decode cX8_program 169 = .ok (.iconst 4, 1) := by decide +kernel
theorem dX8_program_170 : decode cX8_program 170 = .ok (.iload_n 2, 1) := by decide +kernel
theorem dX8_program_171 : decode cX8_program 171 = .ok (.imul, 1) := by decide +kernel
theorem dX8_program_172 : decode cX8_program 172 = .ok (.iload_n 3, 1) := by decide +kernel
theorem dX8_program_173 : decode cX8_program 173 = .ok (.iadd, 1) := by decide +kernel
theorem dX8_program_174 : decode cX8_program 174 = .ok (.aload_n 0, 1) := by decide +kernel
theorem dX8_program_175 : decode cX8_program 175 = .ok (.getfield 31, 3) := by decide +kernel
theorem dX8_program_178 : decode cX8_program 178 = .ok (.iconst 4, 1) := by decide +kernel
theorem dX8_program_179 : decode cX8_program 179 = .ok (.bipush 15, 2) := by decide +kernel
theorem dX8_program_181 : decode cX8_program 181 = .ok (.iload_n 2, 1) := by decide +kernel
theorem dX8_program_182 : decode cX8_program 182 = .ok (.iadd, 1) := by decide +kernel
theorem dX8_program_183 : decode cX8_program 183 = .ok (.imul, 1) := by decide +kernel
theorem dX8_program_184 : decode cX8_program 184 = .ok (.iload_n 3, 1) := by decide +kernel
theorem dX8_program_185 : decode cX8_program 185 = .ok (.iadd, 1) := by decide +kernel
theorem dX8_program_186 : decode cX8_program 186 = .ok (.iaload, 1) := by decide +kernel
theorem dX8_program_187 : decode cX8_program 187 = .ok (.iastore, 1) := by decide +kernel
theorem dX8_program_188 : decode cX8_program 188 = .ok (.aload_n 0, 1) := by decide +kernel
theorem dX8_program_189 : decode cX8_program 189 = .ok (.getfield 34, 3) := by decide +kernel
theorem dX8_program_192 : decode cX8_program 192 = .ok (.iconst 4, 1) := by decide +kernel
theorem dX8_program_193 : decode cX8_program 193 = .ok (.iload_n 2, 1) := by decide +kernel
theorem dX8_program_194 : decode cX8_program 194 = .ok (.imul, 1) := by decide +kernel
theorem dX8_program_195 : decode cX8_program 195 = .ok (.iload_n 3, 1) := by decide +kernel
theorem dX8_program_196 : decode cX8_program 196 = .ok (.iadd, 1) := by decide +kernel
theorem dX8_program_197 : decode cX8_program 197 = .ok (.aload_n 0, 1) := by decide +kernel
theorem dX8_program_198 : decode cX8_program 198 = .ok (.getfield 34, 3) := by decide +kernel
theorem dX8_program_201 : decode cX8_program 201 = .ok (.iconst 4, 1) := by decide +kernel
theorem dX8_program_202 : decode cX8_program 202 = .ok (.bipush 15, 2) := by decide +kernel
theorem dX8_program_204 : decode cX8_program 204 = .ok (.iload_n 2, 1) := by decide +kernel
theorem dX8_program_205 : decode cX8_program 205 = .ok (.iadd, 1) := by decide +kernel
theorem dX8_program_206 : decode cX8_program 206 = .ok (.imul, 1) := by decide +kernel
theorem dX8_program_207 : decode cX8_program 207 = .ok (.iload_n 3, 1) := by decide +kernel
theorem dX8_program_208 : decode cX8_program 208 = .ok (.iadd, 1) := by decide +kernel
theorem dX8_program_209 : decode cX8_program 209 = .ok (.iaload, 1) := by decide +kernel
theorem dX8_program_210 : decode cX8_program 210 = .ok (.iastore, 1) := by decide +kernel
theorem dX8_program_211 : decode cX8_program 211 = .ok (.iinc 3 1, 3) := by decide +kernel
theorem dX8_program_214 : decode cX8_program 214 = .ok (.goto (-54), 3) := by decide +kernel
theorem dX8_program_217 : decode cX8_program 217 = .ok (.iinc 2 1, 3) := by decide +kernel
theorem dX8_program_220 : decode cX8_program 220 = .ok (.goto (-142), 3) := by decide +kernel
theorem dX8_program_223 : decode cX8_program 223 = .ok (.aload_n 0, 1) := by decide +kernel
theorem dX8_program_224 : decode cX8_program 224 = .ok (.iconst 1, 1) := by decide +kernel
theorem dX8_program_225 : decode cX8_program 225 = .ok (.putfield 281, 3) := by decide +kernel
theorem dX8_program_228 : decode cX8_program 228 = .ok (.aload_n 0, 1) := by decide +kernel
theorem dX8_program_229 : decode cX8_program 229 = .ok (.getfield 259, 3) := by decide +kernel
theorem dX8_program_232 : decode cX8_program 232 = .ok (.ireturn, 1) := by decide +kernel
theorem dX8_fault_0 : decode cX8_fault 0 = .ok (.aload_n 0, 1) := by decide +kernel
theorem dX8_fault_1 : decode cX8_fault 1 = .ok (.iconst 0, 1) := by decide +kernel
theorem dX8_fault_2 : decode cX8_fault 2 = .ok (.putfield 105, 3) := by decide +kernel
theorem dX8_fault_5 : decode cX8_fault 5 = .ok (.aload_n 0, 1) := by decide +kernel
theorem dX8_fault_6 : decode cX8_fault 6 = .ok (.getfield 272, 3) := by decide +kernel
theorem dX8_fault_9 : decode cX8_fault 9 = .ok (.ireturn, 1) := by decide +kernel
theorem dX8_where_0 : decode cX8_where 0 = .ok (.aload_n 0, 1) := by decide +kernel
theorem dX8_where_1 : decode cX8_where 1 = .ok (.iconst 0, 1) := by decide +kernel
theorem dX8_where_2 : decode cX8_where 2 = .ok (.putfield 105, 3) := by decide +kernel
theorem dX8_where_5 : decode cX8_where 5 = .ok (.aload_n 0, 1) := by decide +kernel
theorem dX8_where_6 : decode cX8_where 6 = .ok (.getfield 108, 3) := by decide +kernel
theorem dX8_where_9 : decode cX8_where 9 = .ok (.iconst 4, 1) := by decide +kernel
theorem dX8_where_10 : decode cX8_where 10 = .ok (.if_icmp .ne 10, 3) := by decide +kernel
theorem dX8_where_13 : decode cX8_where 13 = .ok (.aload_n 0, 1) := by decide +kernel
theorem dX8_where_14 : decode cX8_where 14 = .ok (.getfield 11, 3) := by decide +kernel
theorem dX8_where_17 : decode cX8_where 17 = .ok (.goto 4, 3) := by decide +kernel
theorem dX8_where_20 : decode cX8_where 20 = .ok (.iconst (-1), 1) := by decide +kernel
theorem dX8_where_21 : decode cX8_where 21 = .ok (.ireturn, 1) := by decide +kernel
theorem dX8_isVariable_0 : decode cX8_isVariable 0 = .ok (.aload_n 0, 1) := by decide +kernel
theorem dX8_isVariable_1 : decode cX8_isVariable 1 = .ok (.getfield 281, 3) := by decide +kernel
theorem dX8_isVariable_4 : decode cX8_isVariable 4 = .ok (.ifCond .eq 23, 3) := by decide +kernel
theorem dX8_isVariable_7 : decode cX8_isVariable 7 = .ok (.iload_n 1, 1) := by decide +kernel
theorem dX8_isVariable_8 : decode cX8_isVariable 8 = .ok (.i2l, 1) := by decide +kernel
theorem dX8_isVariable_9 : decode cX8_isVariable 9 = .ok (.lconst 0, 1) := by decide +kernel
theorem dX8_isVariable_10 : decode cX8_isVariable 10 = .ok (.aload_n 0, 1) := by decide +kernel
theorem dX8_isVariable_11 : decode cX8_isVariable 11 = .ok (.getfield 259, 3) := by decide +kernel
theorem dX8_isVariable_14 : decode cX8_isVariable 14 = .ok (.iconst 1, 1) := by decide +kernel
theorem dX8_isVariable_15 : decode cX8_isVariable 15 = .ok (.isub, 1) := by decide +kernel
theorem dX8_isVariable_16 : decode cX8_isVariable 16 = .ok (.i2l, 1) := by decide +kernel
theorem dX8_isVariable_17 : decode cX8_isVariable 17 = .ok (.invokestatic 140, 3) := by decide +kernel
theorem dX8_isVariable_20 : decode cX8_isVariable 20 = .ok (.ifCond .eq 7, 3) := by decide +kernel
theorem dX8_isVariable_23 : decode cX8_isVariable 23 = .ok (.iconst 1, 1) := by decide +kernel
theorem dX8_isVariable_24 : decode cX8_isVariable 24 = .ok (.goto 4, 3) := by decide +kernel
theorem dX8_isVariable_27 : decode cX8_isVariable 27 = .ok (.iconst 0, 1) := by decide +kernel
theorem dX8_isVariable_28 : decode cX8_isVariable 28 = .ok (.ireturn, 1) := by decide +kernel
theorem dX8_isStep_0 : decode cX8_isStep 0 = .ok (.aload_n 0, 1) := by decide +kernel
theorem dX8_isStep_1 : decode cX8_isStep 1 = .ok (.iload_n 1, 1) := by decide +kernel
theorem dX8_isStep_2 : decode cX8_isStep 2 = .ok (.invokevirtual 285, 3) := by decide +kernel
theorem dX8_isStep_5 : decode cX8_isStep 5 = .ok (.ifCond .eq 19, 3) := by decide +kernel
theorem dX8_isStep_8 : decode cX8_isStep 8 = .ok (.aload_n 0, 1) := by decide +kernel
theorem dX8_isStep_9 : decode cX8_isStep 9 = .ok (.getfield 19, 3) := by decide +kernel
theorem dX8_isStep_12 : decode cX8_isStep 12 = .ok (.iload_n 1, 1) := by decide +kernel
theorem dX8_isStep_13 : decode cX8_isStep 13 = .ok (.iaload, 1) := by decide +kernel
theorem dX8_isStep_14 : decode cX8_isStep 14 = .ok (.invokestatic 248, 3) := by decide +kernel
theorem dX8_isStep_17 : decode cX8_isStep 17 = .ok (.ifCond .ne 7, 3) := by decide +kernel
theorem dX8_isStep_20 : decode cX8_isStep 20 = .ok (.iconst 1, 1) := by decide +kernel
theorem dX8_isStep_21 : decode cX8_isStep 21 = .ok (.goto 4, 3) := by decide +kernel
theorem dX8_isStep_24 : decode cX8_isStep 24 = .ok (.iconst 0, 1) := by decide +kernel
theorem dX8_isStep_25 : decode cX8_isStep 25 = .ok (.ireturn, 1) := by decide +kernel
theorem dX8_isInputAt_0 : decode cX8_isInputAt 0 = .ok (.aload_n 0, 1) := by decide +kernel
theorem dX8_isInputAt_1 : decode cX8_isInputAt 1 = .ok (.iload_n 1, 1) := by decide +kernel
theorem dX8_isInputAt_2 : decode cX8_isInputAt 2 = .ok (.invokevirtual 285, 3) := by decide +kernel
theorem dX8_isInputAt_5 : decode cX8_isInputAt 5 = .ok (.ifCond .eq 19, 3) := by decide +kernel
theorem dX8_isInputAt_8 : decode cX8_isInputAt 8 = .ok (.aload_n 0, 1) := by decide +kernel
theorem dX8_isInputAt_9 : decode cX8_isInputAt 9 = .ok (.getfield 19, 3) := by decide +kernel
theorem dX8_isInputAt_12 : decode cX8_isInputAt 12 = .ok (.iload_n 1, 1) := by decide +kernel
theorem dX8_isInputAt_13 : decode cX8_isInputAt 13 = .ok (.iaload, 1) := by decide +kernel
theorem dX8_isInputAt_14 : decode cX8_isInputAt 14 = .ok (.invokestatic 248, 3) := by decide +kernel
theorem dX8_isInputAt_17 : decode cX8_isInputAt 17 = .ok (.ifCond .eq 7, 3) := by decide +kernel
theorem dX8_isInputAt_20 : decode cX8_isInputAt 20 = .ok (.iconst 1, 1) := by decide +kernel
theorem dX8_isInputAt_21 : decode cX8_isInputAt 21 = .ok (.goto 4, 3) := by decide +kernel
theorem dX8_isInputAt_24 : decode cX8_isInputAt 24 = .ok (.iconst 0, 1) := by decide +kernel
theorem dX8_isInputAt_25 : decode cX8_isInputAt 25 = .ok (.ireturn, 1) := by decide +kernel
theorem dX8_inputs_0 : decode cX8_inputs 0 = .ok (.iconst 0, 1) := by decide +kernel
theorem dX8_inputs_1 : decode cX8_inputs 1 = .ok (.istore_n 1, 1) := by decide +kernel
theorem dX8_inputs_2 : decode cX8_inputs 2 = .ok (.iconst 0, 1) := by decide +kernel
theorem dX8_inputs_3 : decode cX8_inputs 3 = .ok (.istore_n 2, 1) := by decide +kernel
theorem dX8_inputs_4 : decode cX8_inputs 4 = .ok (.iload_n 2, 1) := by decide +kernel
theorem dX8_inputs_5 : decode cX8_inputs 5 = .ok (.aload_n 0, 1) := by decide +kernel
theorem dX8_inputs_6 : decode cX8_inputs 6 = .ok (.getfield 259, 3) := by decide +kernel
theorem dX8_inputs_9 : decode cX8_inputs 9 = .ok (.if_icmp .ge 29, 3) := by decide +kernel
theorem dX8_inputs_12 : decode cX8_inputs 12 = .ok (.iload_n 1, 1) := by decide +kernel
theorem dX8_inputs_13 : decode cX8_inputs 13 = .ok (.aload_n 0, 1) := by decide +kernel
theorem dX8_inputs_14 : decode cX8_inputs 14 = .ok (.getfield 19, 3) := by decide +kernel
theorem dX8_inputs_17 : decode cX8_inputs 17 = .ok (.iload_n 2, 1) := by decide +kernel
theorem dX8_inputs_18 : decode cX8_inputs 18 = .ok (.iaload, 1) := by decide +kernel
theorem dX8_inputs_19 : decode cX8_inputs 19 = .ok (.invokestatic 248, 3) := by decide +kernel
theorem dX8_inputs_22 : decode cX8_inputs 22 = .ok (.ifCond .eq 7, 3) := by decide +kernel
theorem dX8_inputs_25 : decode cX8_inputs 25 = .ok (.iconst 1, 1) := by decide +kernel
theorem dX8_inputs_26 : decode cX8_inputs 26 = .ok (.goto 4, 3) := by decide +kernel
theorem dX8_inputs_29 : decode cX8_inputs 29 = .ok (.iconst 0, 1) := by decide +kernel
theorem dX8_inputs_30 : decode cX8_inputs 30 = .ok (.iadd, 1) := by decide +kernel
theorem dX8_inputs_31 : decode cX8_inputs 31 = .ok (.istore_n 1, 1) := by decide +kernel
theorem dX8_inputs_32 : decode cX8_inputs 32 = .ok (.iinc 2 1, 3) := by decide +kernel
theorem dX8_inputs_35 : decode cX8_inputs 35 = .ok (.goto (-31), 3) := by decide +kernel
theorem dX8_inputs_38 : decode cX8_inputs 38 = .ok (.iload_n 1, 1) := by decide +kernel
theorem dX8_inputs_39 : decode cX8_inputs 39 = .ok (.ireturn, 1) := by decide +kernel
theorem dX8_points_0 : decode cX8_points 0 = .ok (.lconst 1, 1) := by decide +kernel
theorem dX8_points_1 : decode cX8_points 1 = .ok (.lstore_n 1, 1) := by decide +kernel
theorem dX8_points_2 : decode cX8_points 2 = .ok (.iconst 0, 1) := by decide +kernel
theorem dX8_points_3 : decode cX8_points 3 = .ok (.istore_n 3, 1) := by decide +kernel
theorem dX8_points_4 : decode cX8_points 4 = .ok (.iload_n 3, 1) := by decide +kernel
theorem dX8_points_5 : decode cX8_points 5 = .ok (.aload_n 0, 1) := by decide +kernel
theorem dX8_points_6 : decode cX8_points 6 = .ok (.getfield 259, 3) := by decide +kernel
theorem dX8_points_9 : decode cX8_points 9 = .ok (.if_icmp .ge 44, 3) := by decide +kernel
theorem dX8_points_12 : decode cX8_points 12 = .ok (.lload_n 1, 1) := by decide +kernel
theorem dX8_points_13 : decode cX8_points 13 = .ok (.aload_n 0, 1) := by decide +kernel
theorem dX8_points_14 : decode cX8_points 14 = .ok (.getfield 19, 3) := by decide +kernel
theorem dX8_points_17 : decode cX8_points 17 = .ok (.iload_n 3, 1) := by decide +kernel
theorem dX8_points_18 : decode cX8_points 18 = .ok (.iaload, 1) := by decide +kernel
theorem dX8_points_19 : decode cX8_points 19 = .ok (.invokestatic 248, 3) := by decide +kernel
theorem dX8_points_22 : decode cX8_points 22 = .ok (.ifCond .eq 22, 3) := by decide +kernel
theorem dX8_points_25 : decode cX8_points 25 = .ok (.aload_n 0, 1) := by decide +kernel
theorem dX8_points_26 : decode cX8_points 26 = .ok (.getfield 28, 3) := by decide +kernel
theorem dX8_points_29 : decode cX8_points 29 = .ok (.iload_n 3, 1) := by decide +kernel
theorem dX8_points_30 : decode cX8_points 30 = .ok (.iaload, 1) := by decide +kernel
theorem dX8_points_31 : decode cX8_points 31 = .ok (.aload_n 0, 1) := by decide +kernel
theorem dX8_points_32 : decode cX8_points 32 = .ok (.getfield 25, 3) := by decide +kernel
theorem dX8_points_35 : decode cX8_points 35 = .ok (.iload_n 3, 1) := by decide +kernel
theorem dX8_points_36 : decode cX8_points 36 = .ok (.iaload, 1) := by decide +kernel
theorem dX8_points_37 : decode cX8_points 37 = .ok (.isub, 1) := by decide +kernel
theorem dX8_points_38 : decode cX8_points 38 = .ok (.i2l, 1) := by decide +kernel
theorem dX8_points_39 : decode cX8_points 39 = .ok (.lconst 1, 1) := by decide +kernel
theorem dX8_points_40 : decode cX8_points 40 = .ok (.ladd, 1) := by decide +kernel
theorem dX8_points_41 : decode cX8_points 41 = .ok (.goto 4, 3) := by decide +kernel
theorem dX8_points_44 : decode cX8_points 44 = .ok (.lconst 1, 1) := by decide +kernel
theorem dX8_points_45 : decode cX8_points 45 = .ok (.lmul, 1) := by decide +kernel
theorem dX8_points_46 : decode cX8_points 46 = .ok (.lstore_n 1, 1) := by decide +kernel
theorem dX8_points_47 : decode cX8_points 47 = .ok (.iinc 3 1, 3) := by decide +kernel
theorem dX8_points_50 : decode cX8_points 50 = .ok (.goto (-46), 3) := by decide +kernel
theorem dX8_points_53 : decode cX8_points 53 = .ok (.lload_n 1, 1) := by decide +kernel
theorem dX8_points_54 : decode cX8_points 54 = .ok (.ldc2_w 288, 3) := by decide +kernel
theorem dX8_points_57 : decode cX8_points 57 = .ok (.lcmp, 1) := by decide +kernel
theorem dX8_points_58 : decode cX8_points 58 = .ok (.ifCond .ge 7, 3) := by decide +kernel
theorem dX8_points_61 : decode cX8_points 61 = .ok (.lload_n 1, 1) := by decide +kernel
theorem dX8_points_62 : decode cX8_points 62 = .ok (.goto 6, 3) := by decide +kernel
theorem dX8_points_65 : decode cX8_points 65 = .ok (.ldc2_w 288, 3) := by decide +kernel
theorem dX8_points_68 : decode cX8_points 68 = .ok (.lreturn, 1) := by decide +kernel
theorem dX8_about_0 : decode cX8_about 0 = .ok (.aload_n 0, 1) := by decide +kernel
theorem dX8_about_1 : decode cX8_about 1 = .ok (.aload_n 0, 1) := by decide +kernel
theorem dX8_about_2 : decode cX8_about 2 = .ok (.getfield 281, 3) := by decide +kernel
theorem dX8_about_5 : decode cX8_about 5 = .ok (.ifCond .eq 19, 3) := by decide +kernel
theorem dX8_about_8 : decode cX8_about 8 = .ok (.iload_n 1, 1) := by decide +kernel
theorem dX8_about_9 : decode cX8_about 9 = .ok (.i2l, 1) := by decide +kernel
theorem dX8_about_10 : decode cX8_about 10 = .ok (.lconst 0, 1) := by decide +kernel
theorem dX8_about_11 : decode cX8_about 11 = .ok (.ldc2_w 290, 3) := by decide +kernel
theorem dX8_about_14 : decode cX8_about 14 = .ok (.invokestatic 140, 3) := by decide +kernel
theorem dX8_about_17 : decode cX8_about 17 = .ok (.ifCond .eq 7, 3) := by decide +kernel
theorem dX8_about_20 : decode cX8_about 20 = .ok (.iconst 1, 1) := by decide +kernel
theorem dX8_about_21 : decode cX8_about 21 = .ok (.goto 4, 3) := by decide +kernel
theorem dX8_about_24 : decode cX8_about 24 = .ok (.iconst 0, 1) := by decide +kernel
theorem dX8_about_25 : decode cX8_about 25 = .ok (.invokestatic 292, 3) := by decide +kernel
theorem dX8_about_28 : decode cX8_about 28 = .ok (.invokevirtual 269, 3) := by decide +kernel
theorem dX8_about_31 : decode cX8_about 31 = .ok (.ifCond .eq 5, 3) := by decide +kernel
theorem dX8_about_34 : decode cX8_about 34 = .ok (.iconst (-1), 1) := by decide +kernel
theorem dX8_about_35 : decode cX8_about 35 = .ok (.ireturn, 1) := by decide +kernel
theorem dX8_about_36 : decode cX8_about 36 = .ok (.iload_n 1, 1) := by decide +kernel
theorem dX8_about_37 : decode cX8_about 37 = .ok (.tableswitch 60 0 3 #[31, 36, 41, 51], 31) := by decide +kernel
theorem dX8_about_68 : decode cX8_about 68 = .ok (.aload_n 0, 1) := by decide +kernel
theorem dX8_about_69 : decode cX8_about 69 = .ok (.getfield 259, 3) := by decide +kernel
theorem dX8_about_72 : decode cX8_about 72 = .ok (.ireturn, 1) := by decide +kernel
theorem dX8_about_73 : decode cX8_about 73 = .ok (.aload_n 0, 1) := by decide +kernel
theorem dX8_about_74 : decode cX8_about 74 = .ok (.invokevirtual 296, 3) := by decide +kernel
theorem dX8_about_77 : decode cX8_about 77 = .ok (.ireturn, 1) := by decide +kernel
theorem dX8_about_78 : decode cX8_about 78 = .ok (.aload_n 0, 1) := by decide +kernel
theorem dX8_about_79 : decode cX8_about 79 = .ok (.getfield 259, 3) := by decide +kernel
theorem dX8_about_82 : decode cX8_about 82 = .ok (.aload_n 0, 1) := by decide +kernel
theorem dX8_about_83 : decode cX8_about 83 = .ok (.invokevirtual 296, 3) := by decide +kernel
theorem dX8_about_86 : decode cX8_about 86 = .ok (.isub, 1) := by decide +kernel
theorem dX8_about_87 : decode cX8_about 87 = .ok (.ireturn, 1) := by decide +kernel
theorem dX8_about_88 : decode cX8_about 88 = .ok (.aload_n 0, 1) := by decide +kernel
theorem dX8_about_89 : decode cX8_about 89 = .ok (.invokevirtual 299, 3) := by decide +kernel
theorem dX8_about_92 : decode cX8_about 92 = .ok (.aload_n 0, 1) := by decide +kernel
theorem dX8_about_93 : decode cX8_about 93 = .ok (.getfield 302, 3) := by decide +kernel
theorem dX8_about_96 : decode cX8_about 96 = .ok (.ireturn, 1) := by decide +kernel
theorem dX8_about_97 : decode cX8_about 97 = .ok (.aload_n 0, 1) := by decide +kernel
theorem dX8_about_98 : decode cX8_about 98 = .ok (.invokevirtual 305, 3) := by decide +kernel
theorem dX8_about_101 : decode cX8_about 101 = .ok (.l2i, 1) := by decide +kernel
theorem dX8_about_102 : decode cX8_about 102 = .ok (.ireturn, 1) := by decide +kernel
theorem dX8_variable_0 : decode cX8_variable 0 = .ok (.aload_n 0, 1) := by decide +kernel
theorem dX8_variable_1 : decode cX8_variable 1 = .ok (.aload_n 0, 1) := by decide +kernel
theorem dX8_variable_2 : decode cX8_variable 2 = .ok (.iload_n 1, 1) := by decide +kernel
theorem dX8_variable_3 : decode cX8_variable 3 = .ok (.invokevirtual 285, 3) := by decide +kernel
theorem dX8_variable_6 : decode cX8_variable 6 = .ok (.ifCond .eq 19, 3) := by decide +kernel
theorem dX8_variable_9 : decode cX8_variable 9 = .ok (.iload_n 2, 1) := by decide +kernel
theorem dX8_variable_10 : decode cX8_variable 10 = .ok (.i2l, 1) := by decide +kernel
theorem dX8_variable_11 : decode cX8_variable 11 = .ok (.lconst 0, 1) := by decide +kernel
theorem dX8_variable_12 : decode cX8_variable 12 = .ok (.ldc2_w 309, 3) := by decide +kernel
theorem dX8_variable_15 : decode cX8_variable 15 = .ok (.invokestatic 140, 3) := by decide +kernel
theorem dX8_variable_18 : decode cX8_variable 18 = .ok (.ifCond .eq 7, 3) := by decide +kernel
theorem dX8_variable_21 : decode cX8_variable 21 = .ok (.iconst 1, 1) := by decide +kernel
theorem dX8_variable_22 : decode cX8_variable 22 = .ok (.goto 4, 3) := by decide +kernel
theorem dX8_variable_25 : decode cX8_variable 25 = .ok (.iconst 0, 1) := by decide +kernel
theorem dX8_variable_26 : decode cX8_variable 26 = .ok (.invokestatic 292, 3) := by decide +kernel
theorem dX8_variable_29 : decode cX8_variable 29 = .ok (.invokevirtual 269, 3) := by decide +kernel
theorem dX8_variable_32 : decode cX8_variable 32 = .ok (.ifCond .eq 7, 3) := by decide +kernel
theorem dX8_variable_35 : decode cX8_variable 35 = .ok (.ldc2_w 111, 3) := by decide +kernel
theorem dX8_variable_38 : decode cX8_variable 38 = .ok (.lreturn, 1) := by decide +kernel
theorem dX8_variable_39 : decode cX8_variable 39 = .ok (.iload_n 2, 1) := by decide +kernel
theorem dX8_variable_40 : decode cX8_variable 40 = .ok (.tableswitch 152 0 5 #[40, 58, 82, 106, 114, 140], 40) := by decide +kernel
theorem dX8_variable_80 : decode cX8_variable 80 = .ok (.aload_n 0, 1) := by decide +kernel
theorem dX8_variable_81 : decode cX8_variable 81 = .ok (.getfield 19, 3) := by decide +kernel
theorem dX8_variable_84 : decode cX8_variable 84 = .ok (.iload_n 1, 1) := by decide +kernel
theorem dX8_variable_85 : decode cX8_variable 85 = .ok (.iaload, 1) := by decide +kernel
theorem dX8_variable_86 : decode cX8_variable 86 = .ok (.invokestatic 248, 3) := by decide +kernel
theorem dX8_variable_89 : decode cX8_variable 89 = .ok (.ifCond .eq 7, 3) := by decide +kernel
theorem dX8_variable_92 : decode cX8_variable 92 = .ok (.lconst 1, 1) := by decide +kernel
theorem dX8_variable_93 : decode cX8_variable 93 = .ok (.goto 4, 3) := by decide +kernel
theorem dX8_variable_96 : decode cX8_variable 96 = .ok (.lconst 0, 1) := by decide +kernel
theorem dX8_variable_97 : decode cX8_variable 97 = .ok (.lreturn, 1) := by decide +kernel
theorem dX8_variable_98 : decode cX8_variable 98 = .ok (.aload_n 0, 1) := by decide +kernel
theorem dX8_variable_99 : decode cX8_variable 99 = .ok (.getfield 19, 3) := by decide +kernel
theorem dX8_variable_102 : decode cX8_variable 102 = .ok (.iload_n 1, 1) := by decide +kernel
theorem dX8_variable_103 : decode cX8_variable 103 = .ok (.iaload, 1) := by decide +kernel
theorem dX8_variable_104 : decode cX8_variable 104 = .ok (.invokestatic 248, 3) := by decide +kernel
theorem dX8_variable_107 : decode cX8_variable 107 = .ok (.ifCond .eq 13, 3) := by decide +kernel
theorem dX8_variable_110 : decode cX8_variable 110 = .ok (.aload_n 0, 1) := by decide +kernel
theorem dX8_variable_111 : decode cX8_variable 111 = .ok (.getfield 25, 3) := by decide +kernel
theorem dX8_variable_114 : decode cX8_variable 114 = .ok (.iload_n 1, 1) := by decide +kernel
theorem dX8_variable_115 : decode cX8_variable 115 = .ok (.iaload, 1) := by decide +kernel
theorem dX8_variable_116 : decode cX8_variable 116 = .ok (.i2l, 1) := by decide +kernel
theorem dX8_variable_117 : decode cX8_variable 117 = .ok (.goto 4, 3) := by decide +kernel
theorem dX8_variable_120 : decode cX8_variable 120 = .ok (.lconst 0, 1) := by decide +kernel
theorem dX8_variable_121 : decode cX8_variable 121 = .ok (.lreturn, 1) := by decide +kernel
theorem dX8_variable_122 : decode cX8_variable 122 = .ok (.aload_n 0, 1) := by decide +kernel
theorem dX8_variable_123 : decode cX8_variable 123 = .ok (.getfield 19, 3) := by decide +kernel
theorem dX8_variable_126 : decode cX8_variable 126 = .ok (.iload_n 1, 1) := by decide +kernel
theorem dX8_variable_127 : decode cX8_variable 127 = .ok (.iaload, 1) := by decide +kernel
theorem dX8_variable_128 : decode cX8_variable 128 = .ok (.invokestatic 248, 3) := by decide +kernel
theorem dX8_variable_131 : decode cX8_variable 131 = .ok (.ifCond .eq 13, 3) := by decide +kernel
theorem dX8_variable_134 : decode cX8_variable 134 = .ok (.aload_n 0, 1) := by decide +kernel
theorem dX8_variable_135 : decode cX8_variable 135 = .ok (.getfield 28, 3) := by decide +kernel
theorem dX8_variable_138 : decode cX8_variable 138 = .ok (.iload_n 1, 1) := by decide +kernel
theorem dX8_variable_139 : decode cX8_variable 139 = .ok (.iaload, 1) := by decide +kernel
theorem dX8_variable_140 : decode cX8_variable 140 = .ok (.i2l, 1) := by decide +kernel
theorem dX8_variable_141 : decode cX8_variable 141 = .ok (.goto 4, 3) := by decide +kernel
theorem dX8_variable_144 : decode cX8_variable 144 = .ok (.lconst 0, 1) := by decide +kernel
theorem dX8_variable_145 : decode cX8_variable 145 = .ok (.lreturn, 1) := by decide +kernel
theorem dX8_variable_146 : decode cX8_variable 146 = .ok (.aload_n 0, 1) := by decide +kernel
theorem dX8_variable_147 : decode cX8_variable 147 = .ok (.getfield 19, 3) := by decide +kernel
theorem dX8_variable_150 : decode cX8_variable 150 = .ok (.iload_n 1, 1) := by decide +kernel
theorem dX8_variable_151 : decode cX8_variable 151 = .ok (.iaload, 1) := by decide +kernel
theorem dX8_variable_152 : decode cX8_variable 152 = .ok (.i2l, 1) := by decide +kernel
theorem dX8_variable_153 : decode cX8_variable 153 = .ok (.lreturn, 1) := by decide +kernel
theorem dX8_variable_154 : decode cX8_variable 154 = .ok (.aload_n 0, 1) := by decide +kernel
theorem dX8_variable_155 : decode cX8_variable 155 = .ok (.getfield 19, 3) := by decide +kernel
theorem dX8_variable_158 : decode cX8_variable 158 = .ok (.iload_n 1, 1) := by decide +kernel
theorem dX8_variable_159 : decode cX8_variable 159 = .ok (.iaload, 1) := by decide +kernel
theorem dX8_variable_160 : decode cX8_variable 160 = .ok (.invokestatic 248, 3) := by decide +kernel
theorem dX8_variable_163 : decode cX8_variable 163 = .ok (.ifCond .eq 9, 3) := by decide +kernel
theorem dX8_variable_166 : decode cX8_variable 166 = .ok (.ldc2_w 311, 3) := by decide +kernel
theorem dX8_variable_169 : decode cX8_variable 169 = .ok (.goto 10, 3) := by decide +kernel
theorem dX8_variable_172 : decode cX8_variable 172 = .ok (.aload_n 0, 1) := by decide +kernel
theorem dX8_variable_173 : decode cX8_variable 173 = .ok (.getfield 22, 3) := by decide +kernel
theorem dX8_variable_176 : decode cX8_variable 176 = .ok (.iload_n 1, 1) := by decide +kernel
theorem dX8_variable_177 : decode cX8_variable 177 = .ok (.iaload, 1) := by decide +kernel
theorem dX8_variable_178 : decode cX8_variable 178 = .ok (.i2l, 1) := by decide +kernel
theorem dX8_variable_179 : decode cX8_variable 179 = .ok (.lreturn, 1) := by decide +kernel
theorem dX8_variable_180 : decode cX8_variable 180 = .ok (.aload_n 0, 1) := by decide +kernel
theorem dX8_variable_181 : decode cX8_variable 181 = .ok (.invokevirtual 313, 3) := by decide +kernel
theorem dX8_variable_184 : decode cX8_variable 184 = .ok (.aload_n 0, 1) := by decide +kernel
theorem dX8_variable_185 : decode cX8_variable 185 = .ok (.getfield 50, 3) := by decide +kernel
theorem dX8_variable_188 : decode cX8_variable 188 = .ok (.iload_n 1, 1) := by decide +kernel
theorem dX8_variable_189 : decode cX8_variable 189 = .ok (.iaload, 1) := by decide +kernel
theorem dX8_variable_190 : decode cX8_variable 190 = .ok (.i2l, 1) := by decide +kernel
theorem dX8_variable_191 : decode cX8_variable 191 = .ok (.lreturn, 1) := by decide +kernel
theorem dX8_variable_192 : decode cX8_variable 192 = .ok (.aload_n 0, 1) := by decide +kernel
theorem dX8_variable_193 : decode cX8_variable 193 = .ok (.iconst 0, 1) := by decide +kernel
theorem dX8_variable_194 : decode cX8_variable 194 = .ok (.aload_n 0, 1) := by decide +kernel
theorem dX8_variable_195 : decode cX8_variable 195 = .ok (.getfield 259, 3) := by decide +kernel
theorem dX8_variable_198 : decode cX8_variable 198 = .ok (.invokevirtual 232, 3) := by decide +kernel
theorem dX8_variable_201 : decode cX8_variable 201 = .ok (.pop, 1) := by decide +kernel
theorem dX8_variable_202 : decode cX8_variable 202 = .ok (.aload_n 0, 1) := by decide +kernel
theorem dX8_variable_203 : decode cX8_variable 203 = .ok (.getfield 46, 3) := by decide +kernel
theorem dX8_variable_206 : decode cX8_variable 206 = .ok (.iload_n 1, 1) := by decide +kernel
theorem dX8_variable_207 : decode cX8_variable 207 = .ok (.laload, 1) := by decide +kernel
theorem dX8_variable_208 : decode cX8_variable 208 = .ok (.lreturn, 1) := by decide +kernel
theorem dX8_operand_0 : decode cX8_operand 0 = .ok (.aload_n 0, 1) := by decide +kernel
theorem dX8_operand_1 : decode cX8_operand 1 = .ok (.aload_n 0, 1) := by decide +kernel
theorem dX8_operand_2 : decode cX8_operand 2 = .ok (.iload_n 1, 1) := by decide +kernel
theorem dX8_operand_3 : decode cX8_operand 3 = .ok (.invokevirtual 316, 3) := by decide +kernel
theorem dX8_operand_6 : decode cX8_operand 6 = .ok (.ifCond .eq 28, 3) := by decide +kernel
theorem dX8_operand_9 : decode cX8_operand 9 = .ok (.iload_n 2, 1) := by decide +kernel
theorem dX8_operand_10 : decode cX8_operand 10 = .ok (.i2l, 1) := by decide +kernel
theorem dX8_operand_11 : decode cX8_operand 11 = .ok (.lconst 0, 1) := by decide +kernel
theorem dX8_operand_12 : decode cX8_operand 12 = .ok (.aload_n 0, 1) := by decide +kernel
theorem dX8_operand_13 : decode cX8_operand 13 = .ok (.getfield 19, 3) := by decide +kernel
theorem dX8_operand_16 : decode cX8_operand 16 = .ok (.iload_n 1, 1) := by decide +kernel
theorem dX8_operand_17 : decode cX8_operand 17 = .ok (.iaload, 1) := by decide +kernel
theorem dX8_operand_18 : decode cX8_operand 18 = .ok (.invokestatic 319, 3) := by decide +kernel
theorem dX8_operand_21 : decode cX8_operand 21 = .ok (.iconst 1, 1) := by decide +kernel
theorem dX8_operand_22 : decode cX8_operand 22 = .ok (.isub, 1) := by decide +kernel
theorem dX8_operand_23 : decode cX8_operand 23 = .ok (.i2l, 1) := by decide +kernel
theorem dX8_operand_24 : decode cX8_operand 24 = .ok (.invokestatic 140, 3) := by decide +kernel
theorem dX8_operand_27 : decode cX8_operand 27 = .ok (.ifCond .eq 7, 3) := by decide +kernel
theorem dX8_operand_30 : decode cX8_operand 30 = .ok (.iconst 1, 1) := by decide +kernel
theorem dX8_operand_31 : decode cX8_operand 31 = .ok (.goto 4, 3) := by decide +kernel
theorem dX8_operand_34 : decode cX8_operand 34 = .ok (.iconst 0, 1) := by decide +kernel
theorem dX8_operand_35 : decode cX8_operand 35 = .ok (.invokestatic 292, 3) := by decide +kernel
theorem dX8_operand_38 : decode cX8_operand 38 = .ok (.invokevirtual 269, 3) := by decide +kernel
theorem dX8_operand_41 : decode cX8_operand 41 = .ok (.ifCond .eq 5, 3) := by decide +kernel
theorem dX8_operand_44 : decode cX8_operand 44 = .ok (.iconst (-1), 1) := by decide +kernel
theorem dX8_operand_45 : decode cX8_operand 45 = .ok (.ireturn, 1) := by decide +kernel
theorem dX8_operand_46 : decode cX8_operand 46 = .ok (.aload_n 0, 1) := by decide +kernel
theorem dX8_operand_47 : decode cX8_operand 47 = .ok (.getfield 31, 3) := by decide +kernel
theorem dX8_operand_50 : decode cX8_operand 50 = .ok (.iconst 4, 1) := by decide +kernel
theorem dX8_operand_51 : decode cX8_operand 51 = .ok (.iload_n 1, 1) := by decide +kernel
theorem dX8_operand_52 : decode cX8_operand 52 = .ok (.imul, 1) := by decide +kernel
theorem dX8_operand_53 : decode cX8_operand 53 = .ok (.iload_n 2, 1) := by decide +kernel
theorem dX8_operand_54 : decode cX8_operand 54 = .ok (.iadd, 1) := by decide +kernel
theorem dX8_operand_55 : decode cX8_operand 55 = .ok (.iaload, 1) := by decide +kernel
theorem dX8_operand_56 : decode cX8_operand 56 = .ok (.ireturn, 1) := by decide +kernel
theorem dX8_rounded_0 : decode cX8_rounded 0 = .ok (.iload_n 2, 1) := by decide +kernel
theorem dX8_rounded_1 : decode cX8_rounded 1 = .ok (.ifCond .ne 5, 3) := by decide +kernel
theorem dX8_rounded_4 : decode cX8_rounded 4 = .ok (.lload_n 0, 1) := by decide +kernel
theorem dX8_rounded_5 : decode cX8_rounded 5 = .ok (.lreturn, 1) := by decide +kernel
theorem dX8_rounded_6 : decode cX8_rounded 6 = .ok (.lconst 1, 1) := by decide +kernel
theorem dX8_rounded_7 : decode cX8_rounded 7 = .ok (.iload_n 2, 1) := by decide +kernel
theorem dX8_rounded_8 : decode cX8_rounded 8 = .ok (.lshl, 1) := by decide +kernel
theorem dX8_rounded_9 : decode cX8_rounded 9 = .ok (.lstore_n 3, 1) := by decide +kernel
theorem dX8_rounded_10 : decode cX8_rounded 10 = .ok (.lload_n 0, 1) := by decide +kernel
theorem dX8_rounded_11 : decode cX8_rounded 11 = .ok (.lload_n 3, 1) := by decide +kernel
theorem dX8_rounded_12 : decode cX8_rounded 12 = .ok (.invokestatic 322, 3) := by decide +kernel
theorem dX8_rounded_15 : decode cX8_rounded 15 = .ok (.lstore 5, 2) := by decide +kernel
theorem dX8_rounded_17 : decode cX8_rounded 17 = .ok (.lload_n 0, 1) := by decide +kernel
theorem dX8_rounded_18 : decode cX8_rounded 18 = .ok (.lload 5, 2) := by decide +kernel
theorem dX8_rounded_20 : decode cX8_rounded 20 = .ok (.lload_n 3, 1) := by decide +kernel
theorem dX8_rounded_21 : decode cX8_rounded 21 = .ok (.lmul, 1) := by decide +kernel
theorem dX8_rounded_22 : decode cX8_rounded 22 = .ok (.lsub, 1) := by decide +kernel
theorem dX8_rounded_23 : decode cX8_rounded 23 = .ok (.lstore 7, 2) := by decide +kernel
theorem dX8_rounded_25 : decode cX8_rounded 25 = .ok (.ldc2_w 255, 3) := by decide +kernel
theorem dX8_rounded_28 : decode cX8_rounded 28 = .ok (.lload 7, 2) := by decide +kernel
theorem dX8_rounded_30 : decode cX8_rounded 30 = .ok (.lmul, 1) := by decide +kernel
theorem dX8_rounded_31 : decode cX8_rounded 31 = .ok (.lload_n 3, 1) := by decide +kernel
theorem dX8_rounded_32 : decode cX8_rounded 32 = .ok (.lcmp, 1) := by decide +kernel
theorem dX8_rounded_33 : decode cX8_rounded 33 = .ok (.ifCond .gt 25, 3) := by decide +kernel
theorem dX8_rounded_36 : decode cX8_rounded 36 = .ok (.ldc2_w 255, 3) := by decide +kernel
theorem dX8_rounded_39 : decode cX8_rounded 39 = .ok (.lload 7, 2) := by decide +kernel
theorem dX8_rounded_41 : decode cX8_rounded 41 = .ok (.lmul, 1) := by decide +kernel
theorem dX8_rounded_42 : decode cX8_rounded 42 = .ok (.lload_n 3, 1) := by decide +kernel
theorem dX8_rounded_43 : decode cX8_rounded 43 = .ok (.lcmp, 1) := by decide +kernel
theorem dX8_rounded_44 : decode cX8_rounded 44 = .ok (.ifCond .ne 18, 3) := by decide +kernel
theorem dX8_rounded_47 : decode cX8_rounded 47 = .ok (.lload 5, 2) := by decide +kernel
theorem dX8_rounded_49 : decode cX8_rounded 49 = .ok (.ldc2_w 255, 3) := by decide +kernel
theorem dX8_rounded_52 : decode cX8_rounded 52 = .ok (.lrem, 1) := by decide +kernel
theorem dX8_rounded_53 : decode cX8_rounded 53 = .ok (.lconst 0, 1) := by decide +kernel
theorem dX8_rounded_54 : decode cX8_rounded 54 = .ok (.lcmp, 1) := by decide +kernel
theorem dX8_rounded_55 : decode cX8_rounded 55 = .ok (.ifCond .eq 7, 3) := by decide +kernel
theorem dX8_rounded_58 : decode cX8_rounded 58 = .ok (.iconst 1, 1) := by decide +kernel
theorem dX8_rounded_59 : decode cX8_rounded 59 = .ok (.goto 4, 3) := by decide +kernel
theorem dX8_rounded_62 : decode cX8_rounded 62 = .ok (.iconst 0, 1) := by decide +kernel
theorem dX8_rounded_63 : decode cX8_rounded 63 = .ok (.istore 9, 2) := by decide +kernel
theorem dX8_rounded_65 : decode cX8_rounded 65 = .ok (.iload 9, 2) := by decide +kernel
theorem dX8_rounded_67 : decode cX8_rounded 67 = .ok (.ifCond .eq 10, 3) := by decide +kernel
theorem dX8_rounded_70 : decode cX8_rounded 70 = .ok (.lload 5, 2) := by decide +kernel
theorem dX8_rounded_72 : decode cX8_rounded 72 = .ok (.lconst 1, 1) := by decide +kernel
theorem dX8_rounded_73 : decode cX8_rounded 73 = .ok (.ladd, 1) := by decide +kernel
theorem dX8_rounded_74 : decode cX8_rounded 74 = .ok (.goto 5, 3) := by decide +kernel
theorem dX8_rounded_77 : decode cX8_rounded 77 = .ok (.lload 5, 2) := by decide +kernel
theorem dX8_rounded_79 : decode cX8_rounded 79 = .ok (.lload_n 3, 1) := by decide +kernel
theorem dX8_rounded_80 : decode cX8_rounded 80 = .ok (.lmul, 1) := by decide +kernel
theorem dX8_rounded_81 : decode cX8_rounded 81 = .ok (.lreturn, 1) := by decide +kernel
theorem dX8_told_0 : decode cX8_told 0 = .ok (.aload_n 0, 1) := by decide +kernel
theorem dX8_told_1 : decode cX8_told 1 = .ok (.getfield 31, 3) := by decide +kernel
theorem dX8_told_4 : decode cX8_told 4 = .ok (.iconst 4, 1) := by decide +kernel
theorem dX8_told_5 : decode cX8_told 5 = .ok (.iload_n 2, 1) := by decide +kernel
theorem dX8_told_6 : decode cX8_told 6 = .ok (.imul, 1) := by decide +kernel
theorem dX8_told_7 : decode cX8_told 7 = .ok (.iload_n 3, 1) := by decide +kernel
theorem dX8_told_8 : decode cX8_told 8 = .ok (.iadd, 1) := by decide +kernel
theorem dX8_told_9 : decode cX8_told 9 = .ok (.iaload, 1) := by decide +kernel
theorem dX8_told_10 : decode cX8_told 10 = .ok (.istore 4, 2) := by decide +kernel
theorem dX8_told_12 : decode cX8_told 12 = .ok (.iload 4, 2) := by decide +kernel
theorem dX8_told_14 : decode cX8_told 14 = .ok (.bipush (-2), 2) := by decide +kernel
theorem dX8_told_16 : decode cX8_told 16 = .ok (.if_icmp .ne 17, 3) := by decide +kernel
theorem dX8_told_19 : decode cX8_told 19 = .ok (.aload_n 0, 1) := by decide +kernel
theorem dX8_told_20 : decode cX8_told 20 = .ok (.getfield 34, 3) := by decide +kernel
theorem dX8_told_23 : decode cX8_told 23 = .ok (.iconst 4, 1) := by decide +kernel
theorem dX8_told_24 : decode cX8_told 24 = .ok (.iload_n 2, 1) := by decide +kernel
theorem dX8_told_25 : decode cX8_told 25 = .ok (.imul, 1) := by decide +kernel
theorem dX8_told_26 : decode cX8_told 26 = .ok (.iload_n 3, 1) := by decide +kernel
theorem dX8_told_27 : decode cX8_told 27 = .ok (.iadd, 1) := by decide +kernel
theorem dX8_told_28 : decode cX8_told 28 = .ok (.iaload, 1) := by decide +kernel
theorem dX8_told_29 : decode cX8_told 29 = .ok (.i2l, 1) := by decide +kernel
theorem dX8_told_30 : decode cX8_told 30 = .ok (.goto 7, 3) := by decide +kernel
theorem dX8_told_33 : decode cX8_told 33 = .ok (.aload_n 1, 1) := by decide +kernel
theorem dX8_told_34 : decode cX8_told 34 = .ok (.iload 4, 2) := by decide +kernel
theorem dX8_told_36 : decode cX8_told 36 = .ok (.laload, 1) := by decide +kernel
theorem dX8_told_37 : decode cX8_told 37 = .ok (.lreturn, 1) := by decide +kernel
theorem dX8_reckoned_0 : decode cX8_reckoned 0 = .ok (.aload_n 0, 1) := by decide +kernel
theorem dX8_reckoned_1 : decode cX8_reckoned 1 = .ok (.getfield 19, 3) := by decide +kernel
theorem dX8_reckoned_4 : decode cX8_reckoned 4 = .ok (.iload_n 2, 1) := by decide +kernel
theorem dX8_reckoned_5 : decode cX8_reckoned 5 = .ok (.iaload, 1) := by decide +kernel
theorem dX8_reckoned_6 : decode cX8_reckoned 6 = .ok (.tableswitch 74 0 2 #[26, 42, 58], 26) := by decide +kernel
theorem dX8_reckoned_32 : decode cX8_reckoned 32 = .ok (.aload_n 0, 1) := by decide +kernel
theorem dX8_reckoned_33 : decode cX8_reckoned 33 = .ok (.aload_n 1, 1) := by decide +kernel
theorem dX8_reckoned_34 : decode cX8_reckoned 34 = .ok (.iload_n 2, 1) := by decide +kernel
theorem dX8_reckoned_35 : decode cX8_reckoned 35 = .ok (.iconst 0, 1) := by decide +kernel
theorem dX8_reckoned_36 : decode cX8_reckoned 36 = .ok (.invokevirtual 328, 3) := by decide +kernel
theorem dX8_reckoned_39 : decode cX8_reckoned 39 = .ok (.aload_n 0, 1) := by decide +kernel
theorem dX8_reckoned_40 : decode cX8_reckoned 40 = .ok (.aload_n 1, 1) := by decide +kernel
theorem dX8_reckoned_41 : decode cX8_reckoned 41 = .ok (.iload_n 2, 1) := by decide +kernel
theorem dX8_reckoned_42 : decode cX8_reckoned 42 = .ok (.iconst 1, 1) := by decide +kernel
theorem dX8_reckoned_43 : decode cX8_reckoned 43 = .ok (.invokevirtual 328, 3) := by decide +kernel
theorem dX8_reckoned_46 : decode cX8_reckoned 46 = .ok (.ladd, 1) := by decide +kernel
theorem dX8_reckoned_47 : decode cX8_reckoned 47 = .ok (.lreturn, 1) := by decide +kernel
theorem dX8_reckoned_48 : decode cX8_reckoned 48 = .ok (.aload_n 0, 1) := by decide +kernel
theorem dX8_reckoned_49 : decode cX8_reckoned 49 = .ok (.aload_n 1, 1) := by decide +kernel
theorem dX8_reckoned_50 : decode cX8_reckoned 50 = .ok (.iload_n 2, 1) := by decide +kernel
theorem dX8_reckoned_51 : decode cX8_reckoned 51 = .ok (.iconst 0, 1) := by decide +kernel
theorem dX8_reckoned_52 : decode cX8_reckoned 52 = .ok (.invokevirtual 328, 3) := by decide +kernel
theorem dX8_reckoned_55 : decode cX8_reckoned 55 = .ok (.aload_n 0, 1) := by decide +kernel
theorem dX8_reckoned_56 : decode cX8_reckoned 56 = .ok (.aload_n 1, 1) := by decide +kernel
theorem dX8_reckoned_57 : decode cX8_reckoned 57 = .ok (.iload_n 2, 1) := by decide +kernel
theorem dX8_reckoned_58 : decode cX8_reckoned 58 = .ok (.iconst 1, 1) := by decide +kernel
theorem dX8_reckoned_59 : decode cX8_reckoned 59 = .ok (.invokevirtual 328, 3) := by decide +kernel
theorem dX8_reckoned_62 : decode cX8_reckoned 62 = .ok (.lsub, 1) := by decide +kernel
theorem dX8_reckoned_63 : decode cX8_reckoned 63 = .ok (.lreturn, 1) := by decide +kernel
theorem dX8_reckoned_64 : decode cX8_reckoned 64 = .ok (.aload_n 0, 1) := by decide +kernel
theorem dX8_reckoned_65 : decode cX8_reckoned 65 = .ok (.aload_n 1, 1) := by decide +kernel
theorem dX8_reckoned_66 : decode cX8_reckoned 66 = .ok (.iload_n 2, 1) := by decide +kernel
theorem dX8_reckoned_67 : decode cX8_reckoned 67 = .ok (.iconst 0, 1) := by decide +kernel
theorem dX8_reckoned_68 : decode cX8_reckoned 68 = .ok (.invokevirtual 328, 3) := by decide +kernel
theorem dX8_reckoned_71 : decode cX8_reckoned 71 = .ok (.aload_n 0, 1) := by decide +kernel
theorem dX8_reckoned_72 : decode cX8_reckoned 72 = .ok (.aload_n 1, 1) := by decide +kernel
theorem dX8_reckoned_73 : decode cX8_reckoned 73 = .ok (.iload_n 2, 1) := by decide +kernel
theorem dX8_reckoned_74 : decode cX8_reckoned 74 = .ok (.iconst 1, 1) := by decide +kernel
theorem dX8_reckoned_75 : decode cX8_reckoned 75 = .ok (.invokevirtual 328, 3) := by decide +kernel
theorem dX8_reckoned_78 : decode cX8_reckoned 78 = .ok (.lmul, 1) := by decide +kernel
theorem dX8_reckoned_79 : decode cX8_reckoned 79 = .ok (.lreturn, 1) := by decide +kernel
theorem dX8_reckoned_80 : decode cX8_reckoned 80 = .ok (.aload_n 0, 1) := by decide +kernel
theorem dX8_reckoned_81 : decode cX8_reckoned 81 = .ok (.aload_n 1, 1) := by decide +kernel
theorem dX8_reckoned_82 : decode cX8_reckoned 82 = .ok (.iload_n 2, 1) := by decide +kernel
theorem dX8_reckoned_83 : decode cX8_reckoned 83 = .ok (.iconst 0, 1) := by decide +kernel
theorem dX8_reckoned_84 : decode cX8_reckoned 84 = .ok (.invokevirtual 328, 3) := by decide +kernel
theorem dX8_reckoned_87 : decode cX8_reckoned 87 = .ok (.aload_n 0, 1) := by decide +kernel
theorem dX8_reckoned_88 : decode cX8_reckoned 88 = .ok (.aload_n 1, 1) := by decide +kernel
theorem dX8_reckoned_89 : decode cX8_reckoned 89 = .ok (.iload_n 2, 1) := by decide +kernel
theorem dX8_reckoned_90 : decode cX8_reckoned 90 = .ok (.iconst 1, 1) := by decide +kernel
theorem dX8_reckoned_91 : decode cX8_reckoned 91 = .ok (.invokevirtual 328, 3) := by decide +kernel
theorem dX8_reckoned_94 : decode cX8_reckoned 94 = .ok (.lcmp, 1) := by decide +kernel
theorem dX8_reckoned_95 : decode cX8_reckoned 95 = .ok (.ifCond .ge 13, 3) := by decide +kernel
theorem dX8_reckoned_98 : decode cX8_reckoned 98 = .ok (.aload_n 0, 1) := by decide +kernel
theorem dX8_reckoned_99 : decode cX8_reckoned 99 = .ok (.aload_n 1, 1) := by decide +kernel
theorem dX8_reckoned_100 : decode cX8_reckoned 100 = .ok (.iload_n 2, 1) := by decide +kernel
theorem dX8_reckoned_101 : decode cX8_reckoned 101 = .ok (.iconst 2, 1) := by decide +kernel
theorem dX8_reckoned_102 : decode cX8_reckoned 102 = .ok (.invokevirtual 328, 3) := by decide +kernel
theorem dX8_reckoned_105 : decode cX8_reckoned 105 = .ok (.goto 10, 3) := by decide +kernel
theorem dX8_reckoned_108 : decode cX8_reckoned 108 = .ok (.aload_n 0, 1) := by decide +kernel
theorem dX8_reckoned_109 : decode cX8_reckoned 109 = .ok (.aload_n 1, 1) := by decide +kernel
theorem dX8_reckoned_110 : decode cX8_reckoned 110 = .ok (.iload_n 2, 1) := by decide +kernel
theorem dX8_reckoned_111 : decode cX8_reckoned 111 = .ok (.iconst 3, 1) := by decide +kernel
theorem dX8_reckoned_112 : decode cX8_reckoned 112 = .ok (.invokevirtual 328, 3) := by decide +kernel
theorem dX8_reckoned_115 : decode cX8_reckoned 115 = .ok (.lreturn, 1) := by decide +kernel
theorem dX8_reckons_0 : decode cX8_reckons 0 = .ok (.iconst 0, 1) := by decide +kernel
theorem dX8_reckons_1 : decode cX8_reckons 1 = .ok (.istore_n 1, 1) := by decide +kernel
theorem dX8_reckons_2 : decode cX8_reckons 2 = .ok (.iload_n 1, 1) := by decide +kernel
theorem dX8_reckons_3 : decode cX8_reckons 3 = .ok (.aload_n 0, 1) := by decide +kernel
theorem dX8_reckons_4 : decode cX8_reckons 4 = .ok (.getfield 259, 3) := by decide +kernel
theorem dX8_reckons_7 : decode cX8_reckons 7 = .ok (.if_icmp .ge 89, 3) := by decide +kernel
theorem dX8_reckons_10 : decode cX8_reckons 10 = .ok (.aload_n 0, 1) := by decide +kernel
theorem dX8_reckons_11 : decode cX8_reckons 11 = .ok (.getfield 19, 3) := by decide +kernel
theorem dX8_reckons_14 : decode cX8_reckons 14 = .ok (.iload_n 1, 1) := by decide +kernel
theorem dX8_reckons_15 : decode cX8_reckons 15 = .ok (.iaload, 1) := by decide +kernel
theorem dX8_reckons_16 : decode cX8_reckons 16 = .ok (.invokestatic 248, 3) := by decide +kernel
theorem dX8_reckons_19 : decode cX8_reckons 19 = .ok (.ifCond .eq 32, 3) := by decide +kernel
theorem dX8_reckons_22 : decode cX8_reckons 22 = .ok (.aload_n 0, 1) := by decide +kernel
theorem dX8_reckons_23 : decode cX8_reckons 23 = .ok (.getfield 56, 3) := by decide +kernel
theorem dX8_reckons_26 : decode cX8_reckons 26 = .ok (.iload_n 1, 1) := by decide +kernel
theorem dX8_reckons_27 : decode cX8_reckons 27 = .ok (.aload_n 0, 1) := by decide +kernel
theorem dX8_reckons_28 : decode cX8_reckons 28 = .ok (.getfield 62, 3) := by decide +kernel
theorem dX8_reckons_31 : decode cX8_reckons 31 = .ok (.iload_n 1, 1) := by decide +kernel
theorem dX8_reckons_32 : decode cX8_reckons 32 = .ok (.iaload, 1) := by decide +kernel
theorem dX8_reckons_33 : decode cX8_reckons 33 = .ok (.i2l, 1) := by decide +kernel
theorem dX8_reckons_34 : decode cX8_reckons 34 = .ok (.lastore, 1) := by decide +kernel
theorem dX8_reckons_35 : decode cX8_reckons 35 = .ok (.aload_n 0, 1) := by decide +kernel
theorem dX8_reckons_36 : decode cX8_reckons 36 = .ok (.getfield 59, 3) := by decide +kernel
theorem dX8_reckons_39 : decode cX8_reckons 39 = .ok (.iload_n 1, 1) := by decide +kernel
theorem dX8_reckons_40 : decode cX8_reckons 40 = .ok (.aload_n 0, 1) := by decide +kernel
theorem dX8_reckons_41 : decode cX8_reckons 41 = .ok (.getfield 62, 3) := by decide +kernel
theorem dX8_reckons_44 : decode cX8_reckons 44 = .ok (.iload_n 1, 1) := by decide +kernel
theorem dX8_reckons_45 : decode cX8_reckons 45 = .ok (.iaload, 1) := by decide +kernel
theorem dX8_reckons_46 : decode cX8_reckons 46 = .ok (.i2l, 1) := by decide +kernel
theorem dX8_reckons_47 : decode cX8_reckons 47 = .ok (.lastore, 1) := by decide +kernel
theorem dX8_reckons_48 : decode cX8_reckons 48 = .ok (.goto 42, 3) := by decide +kernel
theorem dX8_reckons_51 : decode cX8_reckons 51 = .ok (.aload_n 0, 1) := by decide +kernel
theorem dX8_reckons_52 : decode cX8_reckons 52 = .ok (.getfield 56, 3) := by decide +kernel
theorem dX8_reckons_55 : decode cX8_reckons 55 = .ok (.iload_n 1, 1) := by decide +kernel
theorem dX8_reckons_56 : decode cX8_reckons 56 = .ok (.aload_n 0, 1) := by decide +kernel
theorem dX8_reckons_57 : decode cX8_reckons 57 = .ok (.aload_n 0, 1) := by decide +kernel
theorem dX8_reckons_58 : decode cX8_reckons 58 = .ok (.getfield 56, 3) := by decide +kernel
theorem dX8_reckons_61 : decode cX8_reckons 61 = .ok (.iload_n 1, 1) := by decide +kernel
theorem dX8_reckons_62 : decode cX8_reckons 62 = .ok (.invokevirtual 332, 3) := by decide +kernel
theorem dX8_reckons_65 : decode cX8_reckons 65 = .ok (.lastore, 1) := by decide +kernel
theorem dX8_reckons_66 : decode cX8_reckons 66 = .ok (.aload_n 0, 1) := by decide +kernel
theorem dX8_reckons_67 : decode cX8_reckons 67 = .ok (.getfield 59, 3) := by decide +kernel
theorem dX8_reckons_70 : decode cX8_reckons 70 = .ok (.iload_n 1, 1) := by decide +kernel
theorem dX8_reckons_71 : decode cX8_reckons 71 = .ok (.aload_n 0, 1) := by decide +kernel
theorem dX8_reckons_72 : decode cX8_reckons 72 = .ok (.aload_n 0, 1) := by decide +kernel
theorem dX8_reckons_73 : decode cX8_reckons 73 = .ok (.getfield 59, 3) := by decide +kernel
theorem dX8_reckons_76 : decode cX8_reckons 76 = .ok (.iload_n 1, 1) := by decide +kernel
theorem dX8_reckons_77 : decode cX8_reckons 77 = .ok (.invokevirtual 332, 3) := by decide +kernel
theorem dX8_reckons_80 : decode cX8_reckons 80 = .ok (.aload_n 0, 1) := by decide +kernel
theorem dX8_reckons_81 : decode cX8_reckons 81 = .ok (.getfield 22, 3) := by decide +kernel
theorem dX8_reckons_84 : decode cX8_reckons 84 = .ok (.iload_n 1, 1) := by decide +kernel
theorem dX8_reckons_85 : decode cX8_reckons 85 = .ok (.iaload, 1) := by decide +kernel
theorem dX8_reckons_86 : decode cX8_reckons 86 = .ok (.invokestatic 336, 3) := by decide +kernel
theorem dX8_reckons_89 : decode cX8_reckons 89 = .ok (.lastore, 1) := by decide +kernel
theorem dX8_reckons_90 : decode cX8_reckons 90 = .ok (.iinc 1 1, 3) := by decide +kernel
theorem dX8_reckons_93 : decode cX8_reckons 93 = .ok (.goto (-91), 3) := by decide +kernel
theorem dX8_reckons_96 : decode cX8_reckons 96 = .ok (.return_, 1) := by decide +kernel
theorem dX8_laysPoint_0 : decode cX8_laysPoint 0 = .ok (.iconst 0, 1) := by decide +kernel
theorem dX8_laysPoint_1 : decode cX8_laysPoint 1 = .ok (.istore_n 1, 1) := by decide +kernel
theorem dX8_laysPoint_2 : decode cX8_laysPoint 2 = .ok (.iload_n 1, 1) := by decide +kernel
theorem dX8_laysPoint_3 : decode cX8_laysPoint 3 = .ok (.aload_n 0, 1) := by decide +kernel
theorem dX8_laysPoint_4 : decode cX8_laysPoint 4 = .ok (.getfield 259, 3) := by decide +kernel
theorem dX8_laysPoint_7 : decode cX8_laysPoint 7 = .ok (.if_icmp .ge 21, 3) := by decide +kernel
theorem dX8_laysPoint_10 : decode cX8_laysPoint 10 = .ok (.aload_n 0, 1) := by decide +kernel
theorem dX8_laysPoint_11 : decode cX8_laysPoint 11 = .ok (.getfield 62, 3) := by decide +kernel
theorem dX8_laysPoint_14 : decode cX8_laysPoint 14 = .ok (.iload_n 1, 1) := by decide +kernel
theorem dX8_laysPoint_15 : decode cX8_laysPoint 15 = .ok (.aload_n 0, 1) := by decide +kernel
theorem dX8_laysPoint_16 : decode cX8_laysPoint 16 = .ok (.getfield 37, 3) := by decide +kernel
theorem dX8_laysPoint_19 : decode cX8_laysPoint 19 = .ok (.iload_n 1, 1) := by decide +kernel
theorem dX8_laysPoint_20 : decode cX8_laysPoint 20 = .ok (.iaload, 1) := by decide +kernel
theorem dX8_laysPoint_21 : decode cX8_laysPoint 21 = .ok (.iastore, 1) := by decide +kernel
theorem dX8_laysPoint_22 : decode cX8_laysPoint 22 = .ok (.iinc 1 1, 3) := by decide +kernel
theorem dX8_laysPoint_25 : decode cX8_laysPoint 25 = .ok (.goto (-23), 3) := by decide +kernel
theorem dX8_laysPoint_28 : decode cX8_laysPoint 28 = .ok (.aload_n 0, 1) := by decide +kernel
theorem dX8_laysPoint_29 : decode cX8_laysPoint 29 = .ok (.invokevirtual 340, 3) := by decide +kernel
theorem dX8_laysPoint_32 : decode cX8_laysPoint 32 = .ok (.return_, 1) := by decide +kernel
theorem dX8_set_0 : decode cX8_set 0 = .ok (.aload_n 0, 1) := by decide +kernel
theorem dX8_set_1 : decode cX8_set 1 = .ok (.aload_n 0, 1) := by decide +kernel
theorem dX8_set_2 : decode cX8_set 2 = .ok (.iload_n 1, 1) := by decide +kernel
theorem dX8_set_3 : decode cX8_set 3 = .ok (.invokevirtual 343, 3) := by decide +kernel
theorem dX8_set_6 : decode cX8_set 6 = .ok (.aload_n 0, 1) := by decide +kernel
theorem dX8_set_7 : decode cX8_set 7 = .ok (.iload_n 1, 1) := by decide +kernel
theorem dX8_set_8 : decode cX8_set 8 = .ok (.invokevirtual 343, 3) := by decide +kernel
theorem dX8_set_11 : decode cX8_set 11 = .ok (.ifCond .eq 29, 3) := by decide +kernel
theorem dX8_set_14 : decode cX8_set 14 = .ok (.iload_n 2, 1) := by decide +kernel
theorem dX8_set_15 : decode cX8_set 15 = .ok (.i2l, 1) := by decide +kernel
theorem dX8_set_16 : decode cX8_set 16 = .ok (.aload_n 0, 1) := by decide +kernel
theorem dX8_set_17 : decode cX8_set 17 = .ok (.getfield 25, 3) := by decide +kernel
theorem dX8_set_20 : decode cX8_set 20 = .ok (.iload_n 1, 1) := by decide +kernel
theorem dX8_set_21 : decode cX8_set 21 = .ok (.iaload, 1) := by decide +kernel
theorem dX8_set_22 : decode cX8_set 22 = .ok (.i2l, 1) := by decide +kernel
theorem dX8_set_23 : decode cX8_set 23 = .ok (.aload_n 0, 1) := by decide +kernel
theorem dX8_set_24 : decode cX8_set 24 = .ok (.getfield 28, 3) := by decide +kernel
theorem dX8_set_27 : decode cX8_set 27 = .ok (.iload_n 1, 1) := by decide +kernel
theorem dX8_set_28 : decode cX8_set 28 = .ok (.iaload, 1) := by decide +kernel
theorem dX8_set_29 : decode cX8_set 29 = .ok (.i2l, 1) := by decide +kernel
theorem dX8_set_30 : decode cX8_set 30 = .ok (.invokestatic 140, 3) := by decide +kernel
theorem dX8_set_33 : decode cX8_set 33 = .ok (.ifCond .eq 7, 3) := by decide +kernel
theorem dX8_set_36 : decode cX8_set 36 = .ok (.iconst 1, 1) := by decide +kernel
theorem dX8_set_37 : decode cX8_set 37 = .ok (.goto 4, 3) := by decide +kernel
theorem dX8_set_40 : decode cX8_set 40 = .ok (.iconst 0, 1) := by decide +kernel
theorem dX8_set_41 : decode cX8_set 41 = .ok (.invokestatic 346, 3) := by decide +kernel
theorem dX8_set_44 : decode cX8_set 44 = .ok (.invokevirtual 269, 3) := by decide +kernel
theorem dX8_set_47 : decode cX8_set 47 = .ok (.ifCond .eq 5, 3) := by decide +kernel
theorem dX8_set_50 : decode cX8_set 50 = .ok (.iconst 0, 1) := by decide +kernel
theorem dX8_set_51 : decode cX8_set 51 = .ok (.ireturn, 1) := by decide +kernel
theorem dX8_set_52 : decode cX8_set 52 = .ok (.aload_n 0, 1) := by decide +kernel
theorem dX8_set_53 : decode cX8_set 53 = .ok (.getfield 37, 3) := by decide +kernel
theorem dX8_set_56 : decode cX8_set 56 = .ok (.iload_n 1, 1) := by decide +kernel
theorem dX8_set_57 : decode cX8_set 57 = .ok (.iload_n 2, 1) := by decide +kernel
theorem dX8_set_58 : decode cX8_set 58 = .ok (.iastore, 1) := by decide +kernel
theorem dX8_set_59 : decode cX8_set 59 = .ok (.iconst 1, 1) := by decide +kernel
theorem dX8_set_60 : decode cX8_set 60 = .ok (.ireturn, 1) := by decide +kernel
theorem dX8_at_0 : decode cX8_at 0 = .ok (.aload_n 0, 1) := by decide +kernel
theorem dX8_at_1 : decode cX8_at 1 = .ok (.aload_n 0, 1) := by decide +kernel
theorem dX8_at_2 : decode cX8_at 2 = .ok (.iload_n 1, 1) := by decide +kernel
theorem dX8_at_3 : decode cX8_at 3 = .ok (.invokevirtual 285, 3) := by decide +kernel
theorem dX8_at_6 : decode cX8_at 6 = .ok (.ifCond .eq 19, 3) := by decide +kernel
theorem dX8_at_9 : decode cX8_at 9 = .ok (.iload_n 2, 1) := by decide +kernel
theorem dX8_at_10 : decode cX8_at 10 = .ok (.i2l, 1) := by decide +kernel
theorem dX8_at_11 : decode cX8_at 11 = .ok (.lconst 0, 1) := by decide +kernel
theorem dX8_at_12 : decode cX8_at 12 = .ok (.ldc2_w 255, 3) := by decide +kernel
theorem dX8_at_15 : decode cX8_at 15 = .ok (.invokestatic 140, 3) := by decide +kernel
theorem dX8_at_18 : decode cX8_at 18 = .ok (.ifCond .eq 7, 3) := by decide +kernel
theorem dX8_at_21 : decode cX8_at 21 = .ok (.iconst 1, 1) := by decide +kernel
theorem dX8_at_22 : decode cX8_at 22 = .ok (.goto 4, 3) := by decide +kernel
theorem dX8_at_25 : decode cX8_at 25 = .ok (.iconst 0, 1) := by decide +kernel
theorem dX8_at_26 : decode cX8_at 26 = .ok (.invokestatic 292, 3) := by decide +kernel
theorem dX8_at_29 : decode cX8_at 29 = .ok (.invokevirtual 269, 3) := by decide +kernel
theorem dX8_at_32 : decode cX8_at 32 = .ok (.ifCond .eq 7, 3) := by decide +kernel
theorem dX8_at_35 : decode cX8_at 35 = .ok (.ldc2_w 111, 3) := by decide +kernel
theorem dX8_at_38 : decode cX8_at 38 = .ok (.lreturn, 1) := by decide +kernel
theorem dX8_at_39 : decode cX8_at 39 = .ok (.aload_n 0, 1) := by decide +kernel
theorem dX8_at_40 : decode cX8_at 40 = .ok (.invokevirtual 349, 3) := by decide +kernel
theorem dX8_at_43 : decode cX8_at 43 = .ok (.iload_n 2, 1) := by decide +kernel
theorem dX8_at_44 : decode cX8_at 44 = .ok (.ifCond .ne 12, 3) := by decide +kernel
theorem dX8_at_47 : decode cX8_at 47 = .ok (.aload_n 0, 1) := by decide +kernel
theorem dX8_at_48 : decode cX8_at 48 = .ok (.getfield 56, 3) := by decide +kernel
theorem dX8_at_51 : decode cX8_at 51 = .ok (.iload_n 1, 1) := by decide +kernel
theorem dX8_at_52 : decode cX8_at 52 = .ok (.laload, 1) := by decide +kernel
theorem dX8_at_53 : decode cX8_at 53 = .ok (.goto 30, 3) := by decide +kernel
theorem dX8_at_56 : decode cX8_at 56 = .ok (.iload_n 2, 1) := by decide +kernel
theorem dX8_at_57 : decode cX8_at 57 = .ok (.iconst 1, 1) := by decide +kernel
theorem dX8_at_58 : decode cX8_at 58 = .ok (.if_icmp .ne 12, 3) := by decide +kernel
theorem dX8_at_61 : decode cX8_at 61 = .ok (.aload_n 0, 1) := by decide +kernel
theorem dX8_at_62 : decode cX8_at 62 = .ok (.getfield 59, 3) := by decide +kernel
theorem dX8_at_65 : decode cX8_at 65 = .ok (.iload_n 1, 1) := by decide +kernel
theorem dX8_at_66 : decode cX8_at 66 = .ok (.laload, 1) := by decide +kernel
theorem dX8_at_67 : decode cX8_at 67 = .ok (.goto 16, 3) := by decide +kernel
theorem dX8_at_70 : decode cX8_at 70 = .ok (.aload_n 0, 1) := by decide +kernel
theorem dX8_at_71 : decode cX8_at 71 = .ok (.getfield 59, 3) := by decide +kernel
theorem dX8_at_74 : decode cX8_at 74 = .ok (.iload_n 1, 1) := by decide +kernel
theorem dX8_at_75 : decode cX8_at 75 = .ok (.laload, 1) := by decide +kernel
theorem dX8_at_76 : decode cX8_at 76 = .ok (.aload_n 0, 1) := by decide +kernel
theorem dX8_at_77 : decode cX8_at 77 = .ok (.getfield 56, 3) := by decide +kernel
theorem dX8_at_80 : decode cX8_at 80 = .ok (.iload_n 1, 1) := by decide +kernel
theorem dX8_at_81 : decode cX8_at 81 = .ok (.laload, 1) := by decide +kernel
theorem dX8_at_82 : decode cX8_at 82 = .ok (.lsub, 1) := by decide +kernel
theorem dX8_at_83 : decode cX8_at 83 = .ok (.lreturn, 1) := by decide +kernel
theorem dX8_wentOf_0 : decode cX8_wentOf 0 = .ok (.aload_n 0, 1) := by decide +kernel
theorem dX8_wentOf_1 : decode cX8_wentOf 1 = .ok (.aload_n 0, 1) := by decide +kernel
theorem dX8_wentOf_2 : decode cX8_wentOf 2 = .ok (.getfield 56, 3) := by decide +kernel
theorem dX8_wentOf_5 : decode cX8_wentOf 5 = .ok (.iload_n 1, 1) := by decide +kernel
theorem dX8_wentOf_6 : decode cX8_wentOf 6 = .ok (.iconst 0, 1) := by decide +kernel
theorem dX8_wentOf_7 : decode cX8_wentOf 7 = .ok (.invokevirtual 328, 3) := by decide +kernel
theorem dX8_wentOf_10 : decode cX8_wentOf 10 = .ok (.aload_n 0, 1) := by decide +kernel
theorem dX8_wentOf_11 : decode cX8_wentOf 11 = .ok (.aload_n 0, 1) := by decide +kernel
theorem dX8_wentOf_12 : decode cX8_wentOf 12 = .ok (.getfield 56, 3) := by decide +kernel
theorem dX8_wentOf_15 : decode cX8_wentOf 15 = .ok (.iload_n 1, 1) := by decide +kernel
theorem dX8_wentOf_16 : decode cX8_wentOf 16 = .ok (.iconst 1, 1) := by decide +kernel
theorem dX8_wentOf_17 : decode cX8_wentOf 17 = .ok (.invokevirtual 328, 3) := by decide +kernel
theorem dX8_wentOf_20 : decode cX8_wentOf 20 = .ok (.lcmp, 1) := by decide +kernel
theorem dX8_wentOf_21 : decode cX8_wentOf 21 = .ok (.ifCond .ge 7, 3) := by decide +kernel
theorem dX8_wentOf_24 : decode cX8_wentOf 24 = .ok (.iconst 1, 1) := by decide +kernel
theorem dX8_wentOf_25 : decode cX8_wentOf 25 = .ok (.goto 4, 3) := by decide +kernel
theorem dX8_wentOf_28 : decode cX8_wentOf 28 = .ok (.iconst 0, 1) := by decide +kernel
theorem dX8_wentOf_29 : decode cX8_wentOf 29 = .ok (.istore_n 2, 1) := by decide +kernel
theorem dX8_wentOf_30 : decode cX8_wentOf 30 = .ok (.iload_n 2, 1) := by decide +kernel
theorem dX8_wentOf_31 : decode cX8_wentOf 31 = .ok (.aload_n 0, 1) := by decide +kernel
theorem dX8_wentOf_32 : decode cX8_wentOf 32 = .ok (.aload_n 0, 1) := by decide +kernel
theorem dX8_wentOf_33 : decode cX8_wentOf 33 = .ok (.getfield 59, 3) := by decide +kernel
theorem dX8_wentOf_36 : decode cX8_wentOf 36 = .ok (.iload_n 1, 1) := by decide +kernel
theorem dX8_wentOf_37 : decode cX8_wentOf 37 = .ok (.iconst 0, 1) := by decide +kernel
theorem dX8_wentOf_38 : decode cX8_wentOf 38 = .ok (.invokevirtual 328, 3) := by decide +kernel
theorem dX8_wentOf_41 : decode cX8_wentOf 41 = .ok (.aload_n 0, 1) := by decide +kernel
theorem dX8_wentOf_42 : decode cX8_wentOf 42 = .ok (.aload_n 0, 1) := by decide +kernel
theorem dX8_wentOf_43 : decode cX8_wentOf 43 = .ok (.getfield 59, 3) := by decide +kernel
theorem dX8_wentOf_46 : decode cX8_wentOf 46 = .ok (.iload_n 1, 1) := by decide +kernel
theorem dX8_wentOf_47 : decode cX8_wentOf 47 = .ok (.iconst 1, 1) := by decide +kernel
theorem dX8_wentOf_48 : decode cX8_wentOf 48 = .ok (.invokevirtual 328, 3) := by decide +kernel
theorem dX8_wentOf_51 : decode cX8_wentOf 51 = .ok (.lcmp, 1) := by decide +kernel
theorem dX8_wentOf_52 : decode cX8_wentOf 52 = .ok (.ifCond .ge 7, 3) := by decide +kernel
theorem dX8_wentOf_55 : decode cX8_wentOf 55 = .ok (.iconst 2, 1) := by decide +kernel
theorem dX8_wentOf_56 : decode cX8_wentOf 56 = .ok (.goto 4, 3) := by decide +kernel
theorem dX8_wentOf_59 : decode cX8_wentOf 59 = .ok (.iconst 0, 1) := by decide +kernel
theorem dX8_wentOf_60 : decode cX8_wentOf 60 = .ok (.iadd, 1) := by decide +kernel
theorem dX8_wentOf_61 : decode cX8_wentOf 61 = .ok (.ireturn, 1) := by decide +kernel
theorem dX8_whyNoPick_0 : decode cX8_whyNoPick 0 = .ok (.aload_n 0, 1) := by decide +kernel
theorem dX8_whyNoPick_1 : decode cX8_whyNoPick 1 = .ok (.iload_n 1, 1) := by decide +kernel
theorem dX8_whyNoPick_2 : decode cX8_whyNoPick 2 = .ok (.invokevirtual 316, 3) := by decide +kernel
theorem dX8_whyNoPick_5 : decode cX8_whyNoPick 5 = .ok (.ifCond .ne 7, 3) := by decide +kernel
theorem dX8_whyNoPick_8 : decode cX8_whyNoPick 8 = .ok (.iconst 1, 1) := by decide +kernel
theorem dX8_whyNoPick_9 : decode cX8_whyNoPick 9 = .ok (.goto 18, 3) := by decide +kernel
theorem dX8_whyNoPick_12 : decode cX8_whyNoPick 12 = .ok (.aload_n 0, 1) := by decide +kernel
theorem dX8_whyNoPick_13 : decode cX8_whyNoPick 13 = .ok (.getfield 19, 3) := by decide +kernel
theorem dX8_whyNoPick_16 : decode cX8_whyNoPick 16 = .ok (.iload_n 1, 1) := by decide +kernel
theorem dX8_whyNoPick_17 : decode cX8_whyNoPick 17 = .ok (.iaload, 1) := by decide +kernel
theorem dX8_whyNoPick_18 : decode cX8_whyNoPick 18 = .ok (.iconst 3, 1) := by decide +kernel
theorem dX8_whyNoPick_19 : decode cX8_whyNoPick 19 = .ok (.if_icmp .ne 7, 3) := by decide +kernel
theorem dX8_whyNoPick_22 : decode cX8_whyNoPick 22 = .ok (.iconst 0, 1) := by decide +kernel
theorem dX8_whyNoPick_23 : decode cX8_whyNoPick 23 = .ok (.goto 4, 3) := by decide +kernel
theorem dX8_whyNoPick_26 : decode cX8_whyNoPick 26 = .ok (.iconst 5, 1) := by decide +kernel
theorem dX8_whyNoPick_27 : decode cX8_whyNoPick 27 = .ok (.ireturn, 1) := by decide +kernel
theorem dX8_went_0 : decode cX8_went 0 = .ok (.aload_n 0, 1) := by decide +kernel
theorem dX8_went_1 : decode cX8_went 1 = .ok (.aload_n 0, 1) := by decide +kernel
theorem dX8_went_2 : decode cX8_went 2 = .ok (.iload_n 1, 1) := by decide +kernel
theorem dX8_went_3 : decode cX8_went 3 = .ok (.invokevirtual 352, 3) := by decide +kernel
theorem dX8_went_6 : decode cX8_went 6 = .ok (.invokevirtual 269, 3) := by decide +kernel
theorem dX8_went_9 : decode cX8_went 9 = .ok (.ifCond .eq 5, 3) := by decide +kernel
theorem dX8_went_12 : decode cX8_went 12 = .ok (.iconst (-1), 1) := by decide +kernel
theorem dX8_went_13 : decode cX8_went 13 = .ok (.ireturn, 1) := by decide +kernel
theorem dX8_went_14 : decode cX8_went 14 = .ok (.aload_n 0, 1) := by decide +kernel
theorem dX8_went_15 : decode cX8_went 15 = .ok (.invokevirtual 349, 3) := by decide +kernel
theorem dX8_went_18 : decode cX8_went 18 = .ok (.aload_n 0, 1) := by decide +kernel
theorem dX8_went_19 : decode cX8_went 19 = .ok (.iload_n 1, 1) := by decide +kernel
theorem dX8_went_20 : decode cX8_went 20 = .ok (.invokevirtual 355, 3) := by decide +kernel
theorem dX8_went_23 : decode cX8_went 23 = .ok (.ireturn, 1) := by decide +kernel
theorem dX8_middle_0 : decode cX8_middle 0 = .ok (.bipush 81, 2) := by decide +kernel
theorem dX8_middle_2 : decode cX8_middle 2 = .ok (.iload_n 0, 1) := by decide +kernel
theorem dX8_middle_3 : decode cX8_middle 3 = .ok (.imul, 1) := by decide +kernel
theorem dX8_middle_4 : decode cX8_middle 4 = .ok (.ireturn, 1) := by decide +kernel
theorem dX8_clears_0 : decode cX8_clears 0 = .ok (.iconst 0, 1) := by decide +kernel
theorem dX8_clears_1 : decode cX8_clears 1 = .ok (.istore_n 2, 1) := by decide +kernel
theorem dX8_clears_2 : decode cX8_clears 2 = .ok (.iload_n 2, 1) := by decide +kernel
theorem dX8_clears_3 : decode cX8_clears 3 = .ok (.bipush 81, 2) := by decide +kernel
theorem dX8_clears_5 : decode cX8_clears 5 = .ok (.if_icmp .ge 21, 3) := by decide +kernel
theorem dX8_clears_8 : decode cX8_clears 8 = .ok (.aload_n 0, 1) := by decide +kernel
theorem dX8_clears_9 : decode cX8_clears 9 = .ok (.getfield 65, 3) := by decide +kernel
theorem dX8_clears_12 : decode cX8_clears 12 = .ok (.iload_n 1, 1) := by decide +kernel
theorem dX8_clears_13 : decode cX8_clears 13 = .ok (.invokestatic 358, 3) := by decide +kernel
theorem dX8_clears_16 : decode cX8_clears 16 = .ok (.iload_n 2, 1) := by decide +kernel
theorem dX8_clears_17 : decode cX8_clears 17 = .ok (.iadd, 1) := by decide +kernel
theorem dX8_clears_18 : decode cX8_clears 18 = .ok (.lconst 0, 1) := by decide +kernel
theorem dX8_clears_19 : decode cX8_clears 19 = .ok (.lastore, 1) := by decide +kernel
theorem dX8_clears_20 : decode cX8_clears 20 = .ok (.iinc 2 1, 3) := by decide +kernel
theorem dX8_clears_23 : decode cX8_clears 23 = .ok (.goto (-21), 3) := by decide +kernel
theorem dX8_clears_26 : decode cX8_clears 26 = .ok (.return_, 1) := by decide +kernel
theorem dX8_copies_0 : decode cX8_copies 0 = .ok (.iconst 0, 1) := by decide +kernel
theorem dX8_copies_1 : decode cX8_copies 1 = .ok (.istore_n 3, 1) := by decide +kernel
theorem dX8_copies_2 : decode cX8_copies 2 = .ok (.iload_n 3, 1) := by decide +kernel
theorem dX8_copies_3 : decode cX8_copies 3 = .ok (.bipush 81, 2) := by decide +kernel
theorem dX8_copies_5 : decode cX8_copies 5 = .ok (.if_icmp .ge 31, 3) := by decide +kernel
theorem dX8_copies_8 : decode cX8_copies 8 = .ok (.aload_n 0, 1) := by decide +kernel
theorem dX8_copies_9 : decode cX8_copies 9 = .ok (.getfield 65, 3) := by decide +kernel
theorem dX8_copies_12 : decode cX8_copies 12 = .ok (.iload_n 1, 1) := by decide +kernel
theorem dX8_copies_13 : decode cX8_copies 13 = .ok (.invokestatic 358, 3) := by decide +kernel
theorem dX8_copies_16 : decode cX8_copies 16 = .ok (.iload_n 3, 1) := by decide +kernel
theorem dX8_copies_17 : decode cX8_copies 17 = .ok (.iadd, 1) := by decide +kernel
theorem dX8_copies_18 : decode cX8_copies 18 = .ok (.aload_n 0, 1) := by decide +kernel
theorem dX8_copies_19 : decode cX8_copies 19 = .ok (.getfield 65, 3) := by decide +kernel
theorem dX8_copies_22 : decode cX8_copies 22 = .ok (.iload_n 2, 1) := by decide +kernel
theorem dX8_copies_23 : decode cX8_copies 23 = .ok (.invokestatic 358, 3) := by decide +kernel
theorem dX8_copies_26 : decode cX8_copies 26 = .ok (.iload_n 3, 1) := by decide +kernel
theorem dX8_copies_27 : decode cX8_copies 27 = .ok (.iadd, 1) := by decide +kernel
theorem dX8_copies_28 : decode cX8_copies 28 = .ok (.laload, 1) := by decide +kernel
theorem dX8_copies_29 : decode cX8_copies 29 = .ok (.lastore, 1) := by decide +kernel
theorem dX8_copies_30 : decode cX8_copies 30 = .ok (.iinc 3 1, 3) := by decide +kernel
theorem dX8_copies_33 : decode cX8_copies 33 = .ok (.goto (-31), 3) := by decide +kernel
theorem dX8_copies_36 : decode cX8_copies 36 = .ok (.return_, 1) := by decide +kernel
theorem dX8_sums_0 : decode cX8_sums 0 = .ok (.iconst 0, 1) := by decide +kernel
theorem dX8_sums_1 : decode cX8_sums 1 = .ok (.istore 6, 2) := by decide +kernel
theorem dX8_sums_3 : decode cX8_sums 3 = .ok (.iload 6, 2) := by decide +kernel
theorem dX8_sums_5 : decode cX8_sums 5 = .ok (.bipush 81, 2) := by decide +kernel
theorem dX8_sums_7 : decode cX8_sums 7 = .ok (.if_icmp .ge 49, 3) := by decide +kernel
theorem dX8_sums_10 : decode cX8_sums 10 = .ok (.aload_n 0, 1) := by decide +kernel
theorem dX8_sums_11 : decode cX8_sums 11 = .ok (.getfield 65, 3) := by decide +kernel
theorem dX8_sums_14 : decode cX8_sums 14 = .ok (.iload_n 1, 1) := by decide +kernel
theorem dX8_sums_15 : decode cX8_sums 15 = .ok (.invokestatic 358, 3) := by decide +kernel
theorem dX8_sums_18 : decode cX8_sums 18 = .ok (.iload 6, 2) := by decide +kernel
theorem dX8_sums_20 : decode cX8_sums 20 = .ok (.iadd, 1) := by decide +kernel
theorem dX8_sums_21 : decode cX8_sums 21 = .ok (.aload_n 0, 1) := by decide +kernel
theorem dX8_sums_22 : decode cX8_sums 22 = .ok (.getfield 65, 3) := by decide +kernel
theorem dX8_sums_25 : decode cX8_sums 25 = .ok (.iload_n 2, 1) := by decide +kernel
theorem dX8_sums_26 : decode cX8_sums 26 = .ok (.invokestatic 358, 3) := by decide +kernel
theorem dX8_sums_29 : decode cX8_sums 29 = .ok (.iload 6, 2) := by decide +kernel
theorem dX8_sums_31 : decode cX8_sums 31 = .ok (.iadd, 1) := by decide +kernel
theorem dX8_sums_32 : decode cX8_sums 32 = .ok (.laload, 1) := by decide +kernel
theorem dX8_sums_33 : decode cX8_sums 33 = .ok (.lload 4, 2) := by decide +kernel
theorem dX8_sums_35 : decode cX8_sums 35 = .ok (.aload_n 0, 1) := by decide +kernel
theorem dX8_sums_36 : decode cX8_sums 36 = .ok (.getfield 65, 3) := by decide +kernel
theorem dX8_sums_39 : decode cX8_sums 39 = .ok (.iload_n 3, 1) := by decide +kernel
theorem dX8_sums_40 : decode cX8_sums 40 = .ok (.invokestatic 358, 3) := by decide +kernel
theorem dX8_sums_43 : decode cX8_sums 43 = .ok (.iload 6, 2) := by decide +kernel
theorem dX8_sums_45 : decode cX8_sums 45 = .ok (.iadd, 1) := by decide +kernel
theorem dX8_sums_46 : decode cX8_sums 46 = .ok (.laload, 1) := by decide +kernel
theorem dX8_sums_47 : decode cX8_sums 47 = .ok (.lmul, 1) := by decide +kernel
theorem dX8_sums_48 : decode cX8_sums 48 = .ok (.ladd, 1) := by decide +kernel
theorem dX8_sums_49 : decode cX8_sums 49 = .ok (.lastore, 1) := by decide +kernel
theorem dX8_sums_50 : decode cX8_sums 50 = .ok (.iinc 6 1, 3) := by decide +kernel
theorem dX8_sums_53 : decode cX8_sums 53 = .ok (.goto (-50), 3) := by decide +kernel
theorem dX8_sums_56 : decode cX8_sums 56 = .ok (.return_, 1) := by decide +kernel
theorem dX8_radius_0 : decode cX8_radius 0 = .ok (.lconst 0, 1) := by decide +kernel
theorem dX8_radius_1 : decode cX8_radius 1 = .ok (.lstore_n 2, 1) := by decide +kernel
theorem dX8_radius_2 : decode cX8_radius 2 = .ok (.iconst 0, 1) := by decide +kernel
theorem dX8_radius_3 : decode cX8_radius 3 = .ok (.istore 4, 2) := by decide +kernel
theorem dX8_radius_5 : decode cX8_radius 5 = .ok (.iload 4, 2) := by decide +kernel
theorem dX8_radius_7 : decode cX8_radius 7 = .ok (.aload_n 0, 1) := by decide +kernel
theorem dX8_radius_8 : decode cX8_radius 8 = .ok (.getfield 302, 3) := by decide +kernel
theorem dX8_radius_11 : decode cX8_radius 11 = .ok (.if_icmp .ge 29, 3) := by decide +kernel
theorem dX8_radius_14 : decode cX8_radius 14 = .ok (.lload_n 2, 1) := by decide +kernel
theorem dX8_radius_15 : decode cX8_radius 15 = .ok (.aload_n 0, 1) := by decide +kernel
theorem dX8_radius_16 : decode cX8_radius 16 = .ok (.getfield 65, 3) := by decide +kernel
theorem dX8_radius_19 : decode cX8_radius 19 = .ok (.iload_n 1, 1) := by decide +kernel
theorem dX8_radius_20 : decode cX8_radius 20 = .ok (.invokestatic 358, 3) := by decide +kernel
theorem dX8_radius_23 : decode cX8_radius 23 = .ok (.iconst 1, 1) := by decide +kernel
theorem dX8_radius_24 : decode cX8_radius 24 = .ok (.iadd, 1) := by decide +kernel
theorem dX8_radius_25 : decode cX8_radius 25 = .ok (.iload 4, 2) := by decide +kernel
theorem dX8_radius_27 : decode cX8_radius 27 = .ok (.iadd, 1) := by decide +kernel
theorem dX8_radius_28 : decode cX8_radius 28 = .ok (.laload, 1) := by decide +kernel
theorem dX8_radius_29 : decode cX8_radius 29 = .ok (.invokestatic 244, 3) := by decide +kernel
theorem dX8_radius_32 : decode cX8_radius 32 = .ok (.ladd, 1) := by decide +kernel
theorem dX8_radius_33 : decode cX8_radius 33 = .ok (.lstore_n 2, 1) := by decide +kernel
theorem dX8_radius_34 : decode cX8_radius 34 = .ok (.iinc 4 1, 3) := by decide +kernel
theorem dX8_radius_37 : decode cX8_radius 37 = .ok (.goto (-32), 3) := by decide +kernel
theorem dX8_radius_40 : decode cX8_radius 40 = .ok (.lload_n 2, 1) := by decide +kernel
theorem dX8_radius_41 : decode cX8_radius 41 = .ok (.lreturn, 1) := by decide +kernel
theorem dX8_leastOf_0 : decode cX8_leastOf 0 = .ok (.aload_n 0, 1) := by decide +kernel
theorem dX8_leastOf_1 : decode cX8_leastOf 1 = .ok (.getfield 65, 3) := by decide +kernel
theorem dX8_leastOf_4 : decode cX8_leastOf 4 = .ok (.iload_n 1, 1) := by decide +kernel
theorem dX8_leastOf_5 : decode cX8_leastOf 5 = .ok (.invokestatic 358, 3) := by decide +kernel
theorem dX8_leastOf_8 : decode cX8_leastOf 8 = .ok (.laload, 1) := by decide +kernel
theorem dX8_leastOf_9 : decode cX8_leastOf 9 = .ok (.aload_n 0, 1) := by decide +kernel
theorem dX8_leastOf_10 : decode cX8_leastOf 10 = .ok (.iload_n 1, 1) := by decide +kernel
theorem dX8_leastOf_11 : decode cX8_leastOf 11 = .ok (.invokevirtual 361, 3) := by decide +kernel
theorem dX8_leastOf_14 : decode cX8_leastOf 14 = .ok (.lsub, 1) := by decide +kernel
theorem dX8_leastOf_15 : decode cX8_leastOf 15 = .ok (.lreturn, 1) := by decide +kernel
theorem dX8_greatestOf_0 : decode cX8_greatestOf 0 = .ok (.aload_n 0, 1) := by decide +kernel
theorem dX8_greatestOf_1 : decode cX8_greatestOf 1 = .ok (.getfield 65, 3) := by decide +kernel
theorem dX8_greatestOf_4 : decode cX8_greatestOf 4 = .ok (.iload_n 1, 1) := by decide +kernel
theorem dX8_greatestOf_5 : decode cX8_greatestOf 5 = .ok (.invokestatic 358, 3) := by decide +kernel
theorem dX8_greatestOf_8 : decode cX8_greatestOf 8 = .ok (.laload, 1) := by decide +kernel
theorem dX8_greatestOf_9 : decode cX8_greatestOf 9 = .ok (.aload_n 0, 1) := by decide +kernel
theorem dX8_greatestOf_10 : decode cX8_greatestOf 10 = .ok (.iload_n 1, 1) := by decide +kernel
theorem dX8_greatestOf_11 : decode cX8_greatestOf 11 = .ok (.invokevirtual 361, 3) := by decide +kernel
theorem dX8_greatestOf_14 : decode cX8_greatestOf 14 = .ok (.ladd, 1) := by decide +kernel
theorem dX8_greatestOf_15 : decode cX8_greatestOf 15 = .ok (.lreturn, 1) := by decide +kernel
theorem dX8_brings_0 : decode cX8_brings 0 = .ok (.aload_n 0, 1) := by decide +kernel
theorem dX8_brings_1 : decode cX8_brings 1 = .ok (.getfield 68, 3) := by decide +kernel
theorem dX8_brings_4 : decode cX8_brings 4 = .ok (.aload_n 0, 1) := by decide +kernel
theorem dX8_brings_5 : decode cX8_brings 5 = .ok (.getfield 302, 3) := by decide +kernel
theorem dX8_brings_8 : decode cX8_brings 8 = .ok (.aload_n 0, 1) := by decide +kernel
theorem dX8_brings_9 : decode cX8_brings 9 = .ok (.getfield 365, 3) := by decide +kernel
theorem dX8_brings_12 : decode cX8_brings 12 = .ok (.iastore, 1) := by decide +kernel
theorem dX8_brings_13 : decode cX8_brings 13 = .ok (.aload_n 0, 1) := by decide +kernel
theorem dX8_brings_14 : decode cX8_brings 14 = .ok (.getfield 71, 3) := by decide +kernel
theorem dX8_brings_17 : decode cX8_brings 17 = .ok (.aload_n 0, 1) := by decide +kernel
theorem dX8_brings_18 : decode cX8_brings 18 = .ok (.getfield 302, 3) := by decide +kernel
theorem dX8_brings_21 : decode cX8_brings 21 = .ok (.iload 4, 2) := by decide +kernel
theorem dX8_brings_23 : decode cX8_brings 23 = .ok (.iastore, 1) := by decide +kernel
theorem dX8_brings_24 : decode cX8_brings 24 = .ok (.aload_n 0, 1) := by decide +kernel
theorem dX8_brings_25 : decode cX8_brings 25 = .ok (.getfield 65, 3) := by decide +kernel
theorem dX8_brings_28 : decode cX8_brings 28 = .ok (.iload_n 1, 1) := by decide +kernel
theorem dX8_brings_29 : decode cX8_brings 29 = .ok (.invokestatic 358, 3) := by decide +kernel
theorem dX8_brings_32 : decode cX8_brings 32 = .ok (.iconst 1, 1) := by decide +kernel
theorem dX8_brings_33 : decode cX8_brings 33 = .ok (.iadd, 1) := by decide +kernel
theorem dX8_brings_34 : decode cX8_brings 34 = .ok (.aload_n 0, 1) := by decide +kernel
theorem dX8_brings_35 : decode cX8_brings 35 = .ok (.getfield 302, 3) := by decide +kernel
theorem dX8_brings_38 : decode cX8_brings 38 = .ok (.iadd, 1) := by decide +kernel
theorem dX8_brings_39 : decode cX8_brings 39 = .ok (.dup2, 1) := by decide +kernel
theorem dX8_brings_40 : decode cX8_brings 40 = .ok (.laload, 1) := by decide +kernel
theorem dX8_brings_41 : decode cX8_brings 41 = .ok (.lload_n 2, 1) := by decide +kernel
theorem dX8_brings_42 : decode cX8_brings 42 = .ok (.ladd, 1) := by decide +kernel
theorem dX8_brings_43 : decode cX8_brings 43 = .ok (.lastore, 1) := by decide +kernel
theorem dX8_brings_44 : decode cX8_brings 44 = .ok (.aload_n 0, 1) := by decide +kernel
theorem dX8_brings_45 : decode cX8_brings 45 = .ok (.dup, 1) := by decide +kernel
theorem dX8_brings_46 : decode cX8_brings 46 = .ok (.getfield 302, 3) := by decide +kernel
theorem dX8_brings_49 : decode cX8_brings 49 = .ok (.iconst 1, 1) := by decide +kernel
theorem dX8_brings_50 : decode cX8_brings 50 = .ok (.iadd, 1) := by decide +kernel
theorem dX8_brings_51 : decode cX8_brings 51 = .ok (.putfield 302, 3) := by decide +kernel
theorem dX8_brings_54 : decode cX8_brings 54 = .ok (.return_, 1) := by decide +kernel
theorem dX8_multiplies_0 : decode cX8_multiplies 0 = .ok (.aload_n 0, 1) := by decide +kernel
theorem dX8_multiplies_1 : decode cX8_multiplies 1 = .ok (.iload_n 2, 1) := by decide +kernel
theorem dX8_multiplies_2 : decode cX8_multiplies 2 = .ok (.invokevirtual 361, 3) := by decide +kernel
theorem dX8_multiplies_5 : decode cX8_multiplies 5 = .ok (.aload_n 0, 1) := by decide +kernel
theorem dX8_multiplies_6 : decode cX8_multiplies 6 = .ok (.iload_n 3, 1) := by decide +kernel
theorem dX8_multiplies_7 : decode cX8_multiplies 7 = .ok (.invokevirtual 361, 3) := by decide +kernel
theorem dX8_multiplies_10 : decode cX8_multiplies 10 = .ok (.lmul, 1) := by decide +kernel
theorem dX8_multiplies_11 : decode cX8_multiplies 11 = .ok (.lstore 4, 2) := by decide +kernel
theorem dX8_multiplies_13 : decode cX8_multiplies 13 = .ok (.aload_n 0, 1) := by decide +kernel
theorem dX8_multiplies_14 : decode cX8_multiplies 14 = .ok (.getfield 65, 3) := by decide +kernel
theorem dX8_multiplies_17 : decode cX8_multiplies 17 = .ok (.iload_n 2, 1) := by decide +kernel
theorem dX8_multiplies_18 : decode cX8_multiplies 18 = .ok (.invokestatic 358, 3) := by decide +kernel
theorem dX8_multiplies_21 : decode cX8_multiplies 21 = .ok (.laload, 1) := by decide +kernel
theorem dX8_multiplies_22 : decode cX8_multiplies 22 = .ok (.lstore 6, 2) := by decide +kernel
theorem dX8_multiplies_24 : decode cX8_multiplies 24 = .ok (.aload_n 0, 1) := by decide +kernel
theorem dX8_multiplies_25 : decode cX8_multiplies 25 = .ok (.getfield 65, 3) := by decide +kernel
theorem dX8_multiplies_28 : decode cX8_multiplies 28 = .ok (.iload_n 3, 1) := by decide +kernel
theorem dX8_multiplies_29 : decode cX8_multiplies 29 = .ok (.invokestatic 358, 3) := by decide +kernel
theorem dX8_multiplies_32 : decode cX8_multiplies 32 = .ok (.laload, 1) := by decide +kernel
theorem dX8_multiplies_33 : decode cX8_multiplies 33 = .ok (.lstore 8, 2) := by decide +kernel
theorem dX8_multiplies_35 : decode cX8_multiplies 35 = .ok (.iconst 1, 1) := by decide +kernel
theorem dX8_multiplies_36 : decode cX8_multiplies 36 = .ok (.istore 10, 2) := by decide +kernel
theorem dX8_multiplies_38 : decode cX8_multiplies 38 = .ok (.iload 10, 2) := by decide +kernel
theorem dX8_multiplies_40 : decode cX8_multiplies 40 = .ok (.bipush 81, 2) := by decide +kernel
theorem dX8_multiplies_42 : decode cX8_multiplies 42 = .ok (.if_icmp .ge 52, 3) := by decide +kernel
theorem dX8_multiplies_45 : decode cX8_multiplies 45 = .ok (.aload_n 0, 1) := by decide +kernel
theorem dX8_multiplies_46 : decode cX8_multiplies 46 = .ok (.getfield 65, 3) := by decide +kernel
theorem dX8_multiplies_49 : decode cX8_multiplies 49 = .ok (.iload_n 1, 1) := by decide +kernel
theorem dX8_multiplies_50 : decode cX8_multiplies 50 = .ok (.invokestatic 358, 3) := by decide +kernel
theorem dX8_multiplies_53 : decode cX8_multiplies 53 = .ok (.iload 10, 2) := by decide +kernel
theorem dX8_multiplies_55 : decode cX8_multiplies 55 = .ok (.iadd, 1) := by decide +kernel
theorem dX8_multiplies_56 : decode cX8_multiplies 56 = .ok (.lload 6, 2) := by decide +kernel
theorem dX8_multiplies_58 : decode cX8_multiplies 58 = .ok (.aload_n 0, 1) := by decide +kernel
theorem dX8_multiplies_59 : decode cX8_multiplies 59 = .ok (.getfield 65, 3) := by decide +kernel
theorem dX8_multiplies_62 : decode cX8_multiplies 62 = .ok (.iload_n 3, 1) := by decide +kernel
theorem dX8_multiplies_63 : decode cX8_multiplies 63 = .ok (.invokestatic 358, 3) := by decide +kernel
theorem dX8_multiplies_66 : decode cX8_multiplies 66 = .ok (.iload 10, 2) := by decide +kernel
theorem dX8_multiplies_68 : decode cX8_multiplies 68 = .ok (.iadd, 1) := by decide +kernel
theorem dX8_multiplies_69 : decode cX8_multiplies 69 = .ok (.laload, 1) := by decide +kernel
theorem dX8_multiplies_70 : decode cX8_multiplies 70 = .ok (.lmul, 1) := by decide +kernel
theorem dX8_multiplies_71 : decode cX8_multiplies 71 = .ok (.lload 8, 2) := by decide +kernel
theorem dX8_multiplies_73 : decode cX8_multiplies 73 = .ok (.aload_n 0, 1) := by decide +kernel
theorem dX8_multiplies_74 : decode cX8_multiplies 74 = .ok (.getfield 65, 3) := by decide +kernel
theorem dX8_multiplies_77 : decode cX8_multiplies 77 = .ok (.iload_n 2, 1) := by decide +kernel
theorem dX8_multiplies_78 : decode cX8_multiplies 78 = .ok (.invokestatic 358, 3) := by decide +kernel
theorem dX8_multiplies_81 : decode cX8_multiplies 81 = .ok (.iload 10, 2) := by decide +kernel
theorem dX8_multiplies_83 : decode cX8_multiplies 83 = .ok (.iadd, 1) := by decide +kernel
theorem dX8_multiplies_84 : decode cX8_multiplies 84 = .ok (.laload, 1) := by decide +kernel
theorem dX8_multiplies_85 : decode cX8_multiplies 85 = .ok (.lmul, 1) := by decide +kernel
theorem dX8_multiplies_86 : decode cX8_multiplies 86 = .ok (.ladd, 1) := by decide +kernel
theorem dX8_multiplies_87 : decode cX8_multiplies 87 = .ok (.lastore, 1) := by decide +kernel
theorem dX8_multiplies_88 : decode cX8_multiplies 88 = .ok (.iinc 10 1, 3) := by decide +kernel
theorem dX8_multiplies_91 : decode cX8_multiplies 91 = .ok (.goto (-53), 3) := by decide +kernel
theorem dX8_multiplies_94 : decode cX8_multiplies 94 = .ok (.aload_n 0, 1) := by decide +kernel
theorem dX8_multiplies_95 : decode cX8_multiplies 95 = .ok (.getfield 65, 3) := by decide +kernel
theorem dX8_multiplies_98 : decode cX8_multiplies 98 = .ok (.iload_n 1, 1) := by decide +kernel
theorem dX8_multiplies_99 : decode cX8_multiplies 99 = .ok (.invokestatic 358, 3) := by decide +kernel
theorem dX8_multiplies_102 : decode cX8_multiplies 102 = .ok (.lload 6, 2) := by decide +kernel
theorem dX8_multiplies_104 : decode cX8_multiplies 104 = .ok (.lload 8, 2) := by decide +kernel
theorem dX8_multiplies_106 : decode cX8_multiplies 106 = .ok (.lmul, 1) := by decide +kernel
theorem dX8_multiplies_107 : decode cX8_multiplies 107 = .ok (.lastore, 1) := by decide +kernel
theorem dX8_multiplies_108 : decode cX8_multiplies 108 = .ok (.lload 4, 2) := by decide +kernel
theorem dX8_multiplies_110 : decode cX8_multiplies 110 = .ok (.lconst 0, 1) := by decide +kernel
theorem dX8_multiplies_111 : decode cX8_multiplies 111 = .ok (.lcmp, 1) := by decide +kernel
theorem dX8_multiplies_112 : decode cX8_multiplies 112 = .ok (.ifCond .eq 11, 3) := by decide +kernel
theorem dX8_multiplies_115 : decode cX8_multiplies 115 = .ok (.aload_n 0, 1) := by decide +kernel
theorem dX8_multiplies_116 : decode cX8_multiplies 116 = .ok (.iload_n 1, 1) := by decide +kernel
theorem dX8_multiplies_117 : decode cX8_multiplies 117 = .ok (.lload 4, 2) := by decide +kernel
theorem dX8_multiplies_119 : decode cX8_multiplies 119 = .ok (.iconst 1, 1) := by decide +kernel
theorem dX8_multiplies_120 : decode cX8_multiplies 120 = .ok (.invokevirtual 368, 3) := by decide +kernel
theorem dX8_multiplies_123 : decode cX8_multiplies 123 = .ok (.return_, 1) := by decide +kernel
theorem dX8_joins_0 : decode cX8_joins 0 = .ok (.aload_n 0, 1) := by decide +kernel
theorem dX8_joins_1 : decode cX8_joins 1 = .ok (.getfield 372, 3) := by decide +kernel
theorem dX8_joins_4 : decode cX8_joins 4 = .ok (.iconst 1, 1) := by decide +kernel
theorem dX8_joins_5 : decode cX8_joins 5 = .ok (.if_icmp .ne 15, 3) := by decide +kernel
theorem dX8_joins_8 : decode cX8_joins 8 = .ok (.aload_n 0, 1) := by decide +kernel
theorem dX8_joins_9 : decode cX8_joins 9 = .ok (.iload_n 1, 1) := by decide +kernel
theorem dX8_joins_10 : decode cX8_joins 10 = .ok (.aload_n 0, 1) := by decide +kernel
theorem dX8_joins_11 : decode cX8_joins 11 = .ok (.getfield 83, 3) := by decide +kernel
theorem dX8_joins_14 : decode cX8_joins 14 = .ok (.iconst 0, 1) := by decide +kernel
theorem dX8_joins_15 : decode cX8_joins 15 = .ok (.iaload, 1) := by decide +kernel
theorem dX8_joins_16 : decode cX8_joins 16 = .ok (.invokevirtual 375, 3) := by decide +kernel
theorem dX8_joins_19 : decode cX8_joins 19 = .ok (.return_, 1) := by decide +kernel
theorem dX8_joins_20 : decode cX8_joins 20 = .ok (.aload_n 0, 1) := by decide +kernel
theorem dX8_joins_21 : decode cX8_joins 21 = .ok (.aload_n 0, 1) := by decide +kernel
theorem dX8_joins_22 : decode cX8_joins 22 = .ok (.getfield 83, 3) := by decide +kernel
theorem dX8_joins_25 : decode cX8_joins 25 = .ok (.iconst 0, 1) := by decide +kernel
theorem dX8_joins_26 : decode cX8_joins 26 = .ok (.iaload, 1) := by decide +kernel
theorem dX8_joins_27 : decode cX8_joins 27 = .ok (.invokevirtual 379, 3) := by decide +kernel
theorem dX8_joins_30 : decode cX8_joins 30 = .ok (.lstore_n 2, 1) := by decide +kernel
theorem dX8_joins_31 : decode cX8_joins 31 = .ok (.aload_n 0, 1) := by decide +kernel
theorem dX8_joins_32 : decode cX8_joins 32 = .ok (.aload_n 0, 1) := by decide +kernel
theorem dX8_joins_33 : decode cX8_joins 33 = .ok (.getfield 83, 3) := by decide +kernel
theorem dX8_joins_36 : decode cX8_joins 36 = .ok (.iconst 0, 1) := by decide +kernel
theorem dX8_joins_37 : decode cX8_joins 37 = .ok (.iaload, 1) := by decide +kernel
theorem dX8_joins_38 : decode cX8_joins 38 = .ok (.invokevirtual 382, 3) := by decide +kernel
theorem dX8_joins_41 : decode cX8_joins 41 = .ok (.lstore 4, 2) := by decide +kernel
theorem dX8_joins_43 : decode cX8_joins 43 = .ok (.iconst 1, 1) := by decide +kernel
theorem dX8_joins_44 : decode cX8_joins 44 = .ok (.istore 6, 2) := by decide +kernel
theorem dX8_joins_46 : decode cX8_joins 46 = .ok (.iload 6, 2) := by decide +kernel
theorem dX8_joins_48 : decode cX8_joins 48 = .ok (.aload_n 0, 1) := by decide +kernel
theorem dX8_joins_49 : decode cX8_joins 49 = .ok (.getfield 372, 3) := by decide +kernel
theorem dX8_joins_52 : decode cX8_joins 52 = .ok (.if_icmp .ge 76, 3) := by decide +kernel
theorem dX8_joins_55 : decode cX8_joins 55 = .ok (.aload_n 0, 1) := by decide +kernel
theorem dX8_joins_56 : decode cX8_joins 56 = .ok (.aload_n 0, 1) := by decide +kernel
theorem dX8_joins_57 : decode cX8_joins 57 = .ok (.getfield 83, 3) := by decide +kernel
theorem dX8_joins_60 : decode cX8_joins 60 = .ok (.iload 6, 2) := by decide +kernel
theorem dX8_joins_62 : decode cX8_joins 62 = .ok (.iaload, 1) := by decide +kernel
theorem dX8_joins_63 : decode cX8_joins 63 = .ok (.invokevirtual 379, 3) := by decide +kernel
theorem dX8_joins_66 : decode cX8_joins 66 = .ok (.lload_n 2, 1) := by decide +kernel
theorem dX8_joins_67 : decode cX8_joins 67 = .ok (.lcmp, 1) := by decide +kernel
theorem dX8_joins_68 : decode cX8_joins 68 = .ok (.ifCond .ge 17, 3) := by decide +kernel
theorem dX8_joins_71 : decode cX8_joins 71 = .ok (.aload_n 0, 1) := by decide +kernel
theorem dX8_joins_72 : decode cX8_joins 72 = .ok (.aload_n 0, 1) := by decide +kernel
theorem dX8_joins_73 : decode cX8_joins 73 = .ok (.getfield 83, 3) := by decide +kernel
theorem dX8_joins_76 : decode cX8_joins 76 = .ok (.iload 6, 2) := by decide +kernel
theorem dX8_joins_78 : decode cX8_joins 78 = .ok (.iaload, 1) := by decide +kernel
theorem dX8_joins_79 : decode cX8_joins 79 = .ok (.invokevirtual 379, 3) := by decide +kernel
theorem dX8_joins_82 : decode cX8_joins 82 = .ok (.goto 4, 3) := by decide +kernel
theorem dX8_joins_85 : decode cX8_joins 85 = .ok (.lload_n 2, 1) := by decide +kernel
theorem dX8_joins_86 : decode cX8_joins 86 = .ok (.lstore_n 2, 1) := by decide +kernel
theorem dX8_joins_87 : decode cX8_joins 87 = .ok (.aload_n 0, 1) := by decide +kernel
theorem dX8_joins_88 : decode cX8_joins 88 = .ok (.aload_n 0, 1) := by decide +kernel
theorem dX8_joins_89 : decode cX8_joins 89 = .ok (.getfield 83, 3) := by decide +kernel
theorem dX8_joins_92 : decode cX8_joins 92 = .ok (.iload 6, 2) := by decide +kernel
theorem dX8_joins_94 : decode cX8_joins 94 = .ok (.iaload, 1) := by decide +kernel
theorem dX8_joins_95 : decode cX8_joins 95 = .ok (.invokevirtual 382, 3) := by decide +kernel
theorem dX8_joins_98 : decode cX8_joins 98 = .ok (.lload 4, 2) := by decide +kernel
theorem dX8_joins_100 : decode cX8_joins 100 = .ok (.lcmp, 1) := by decide +kernel
theorem dX8_joins_101 : decode cX8_joins 101 = .ok (.ifCond .le 17, 3) := by decide +kernel
theorem dX8_joins_104 : decode cX8_joins 104 = .ok (.aload_n 0, 1) := by decide +kernel
theorem dX8_joins_105 : decode cX8_joins 105 = .ok (.aload_n 0, 1) := by decide +kernel
theorem dX8_joins_106 : decode cX8_joins 106 = .ok (.getfield 83, 3) := by decide +kernel
theorem dX8_joins_109 : decode cX8_joins 109 = .ok (.iload 6, 2) := by decide +kernel
theorem dX8_joins_111 : decode cX8_joins 111 = .ok (.iaload, 1) := by decide +kernel
theorem dX8_joins_112 : decode cX8_joins 112 = .ok (.invokevirtual 382, 3) := by decide +kernel
theorem dX8_joins_115 : decode cX8_joins 115 = .ok (.goto 5, 3) := by decide +kernel
theorem dX8_joins_118 : decode cX8_joins 118 = .ok (.lload 4, 2) := by decide +kernel
theorem dX8_joins_120 : decode cX8_joins 120 = .ok (.lstore 4, 2) := by decide +kernel
theorem dX8_joins_122 : decode cX8_joins 122 = .ok (.iinc 6 1, 3) := by decide +kernel
theorem dX8_joins_125 : decode cX8_joins 125 = .ok (.goto (-79), 3) := by decide +kernel
theorem dX8_joins_128 : decode cX8_joins 128 = .ok (.aload_n 0, 1) := by decide +kernel
theorem dX8_joins_129 : decode cX8_joins 129 = .ok (.iload_n 1, 1) := by decide +kernel
theorem dX8_joins_130 : decode cX8_joins 130 = .ok (.invokevirtual 385, 3) := by decide +kernel
theorem dX8_joins_133 : decode cX8_joins 133 = .ok (.lload_n 2, 1) := by decide +kernel
theorem dX8_joins_134 : decode cX8_joins 134 = .ok (.lload 4, 2) := by decide +kernel
theorem dX8_joins_136 : decode cX8_joins 136 = .ok (.ladd, 1) := by decide +kernel
theorem dX8_joins_137 : decode cX8_joins 137 = .ok (.ldc2_w 255, 3) := by decide +kernel
theorem dX8_joins_140 : decode cX8_joins 140 = .ok (.invokestatic 322, 3) := by decide +kernel
theorem dX8_joins_143 : decode cX8_joins 143 = .ok (.lstore 6, 2) := by decide +kernel
theorem dX8_joins_145 : decode cX8_joins 145 = .ok (.aload_n 0, 1) := by decide +kernel
theorem dX8_joins_146 : decode cX8_joins 146 = .ok (.getfield 65, 3) := by decide +kernel
theorem dX8_joins_149 : decode cX8_joins 149 = .ok (.iload_n 1, 1) := by decide +kernel
theorem dX8_joins_150 : decode cX8_joins 150 = .ok (.invokestatic 358, 3) := by decide +kernel
theorem dX8_joins_153 : decode cX8_joins 153 = .ok (.lload 6, 2) := by decide +kernel
theorem dX8_joins_155 : decode cX8_joins 155 = .ok (.lastore, 1) := by decide +kernel
theorem dX8_joins_156 : decode cX8_joins 156 = .ok (.lload 4, 2) := by decide +kernel
theorem dX8_joins_158 : decode cX8_joins 158 = .ok (.lload 6, 2) := by decide +kernel
theorem dX8_joins_160 : decode cX8_joins 160 = .ok (.lcmp, 1) := by decide +kernel
theorem dX8_joins_161 : decode cX8_joins 161 = .ok (.ifCond .eq 14, 3) := by decide +kernel
theorem dX8_joins_164 : decode cX8_joins 164 = .ok (.aload_n 0, 1) := by decide +kernel
theorem dX8_joins_165 : decode cX8_joins 165 = .ok (.iload_n 1, 1) := by decide +kernel
theorem dX8_joins_166 : decode cX8_joins 166 = .ok (.lload 4, 2) := by decide +kernel
theorem dX8_joins_168 : decode cX8_joins 168 = .ok (.lload 6, 2) := by decide +kernel
theorem dX8_joins_170 : decode cX8_joins 170 = .ok (.lsub, 1) := by decide +kernel
theorem dX8_joins_171 : decode cX8_joins 171 = .ok (.iconst 2, 1) := by decide +kernel
theorem dX8_joins_172 : decode cX8_joins 172 = .ok (.invokevirtual 368, 3) := by decide +kernel
theorem dX8_joins_175 : decode cX8_joins 175 = .ok (.return_, 1) := by decide +kernel
theorem dX8_adds_0 : decode cX8_adds 0 = .ok (.aload_n 0, 1) := by decide +kernel
theorem dX8_adds_1 : decode cX8_adds 1 = .ok (.getfield 83, 3) := by decide +kernel
theorem dX8_adds_4 : decode cX8_adds 4 = .ok (.aload_n 0, 1) := by decide +kernel
theorem dX8_adds_5 : decode cX8_adds 5 = .ok (.getfield 372, 3) := by decide +kernel
theorem dX8_adds_8 : decode cX8_adds 8 = .ok (.iload_n 1, 1) := by decide +kernel
theorem dX8_adds_9 : decode cX8_adds 9 = .ok (.iastore, 1) := by decide +kernel
theorem dX8_adds_10 : decode cX8_adds 10 = .ok (.aload_n 0, 1) := by decide +kernel
theorem dX8_adds_11 : decode cX8_adds 11 = .ok (.dup, 1) := by decide +kernel
theorem dX8_adds_12 : decode cX8_adds 12 = .ok (.getfield 372, 3) := by decide +kernel
theorem dX8_adds_15 : decode cX8_adds 15 = .ok (.iconst 1, 1) := by decide +kernel
theorem dX8_adds_16 : decode cX8_adds 16 = .ok (.iadd, 1) := by decide +kernel
theorem dX8_adds_17 : decode cX8_adds 17 = .ok (.putfield 372, 3) := by decide +kernel
theorem dX8_adds_20 : decode cX8_adds 20 = .ok (.return_, 1) := by decide +kernel
theorem dX8_laysOperand_0 : decode cX8_laysOperand 0 = .ok (.aload_n 0, 1) := by decide +kernel
theorem dX8_laysOperand_1 : decode cX8_laysOperand 1 = .ok (.getfield 31, 3) := by decide +kernel
theorem dX8_laysOperand_4 : decode cX8_laysOperand 4 = .ok (.iconst 4, 1) := by decide +kernel
theorem dX8_laysOperand_5 : decode cX8_laysOperand 5 = .ok (.iload_n 1, 1) := by decide +kernel
theorem dX8_laysOperand_6 : decode cX8_laysOperand 6 = .ok (.imul, 1) := by decide +kernel
theorem dX8_laysOperand_7 : decode cX8_laysOperand 7 = .ok (.iload_n 2, 1) := by decide +kernel
theorem dX8_laysOperand_8 : decode cX8_laysOperand 8 = .ok (.iadd, 1) := by decide +kernel
theorem dX8_laysOperand_9 : decode cX8_laysOperand 9 = .ok (.iaload, 1) := by decide +kernel
theorem dX8_laysOperand_10 : decode cX8_laysOperand 10 = .ok (.istore 5, 2) := by decide +kernel
theorem dX8_laysOperand_12 : decode cX8_laysOperand 12 = .ok (.iload 5, 2) := by decide +kernel
theorem dX8_laysOperand_14 : decode cX8_laysOperand 14 = .ok (.bipush (-2), 2) := by decide +kernel
theorem dX8_laysOperand_16 : decode cX8_laysOperand 16 = .ok (.if_icmp .ne 37, 3) := by decide +kernel
theorem dX8_laysOperand_19 : decode cX8_laysOperand 19 = .ok (.aload_n 0, 1) := by decide +kernel
theorem dX8_laysOperand_20 : decode cX8_laysOperand 20 = .ok (.iload_n 3, 1) := by decide +kernel
theorem dX8_laysOperand_21 : decode cX8_laysOperand 21 = .ok (.invokevirtual 385, 3) := by decide +kernel
theorem dX8_laysOperand_24 : decode cX8_laysOperand 24 = .ok (.aload_n 0, 1) := by decide +kernel
theorem dX8_laysOperand_25 : decode cX8_laysOperand 25 = .ok (.iload 4, 2) := by decide +kernel
theorem dX8_laysOperand_27 : decode cX8_laysOperand 27 = .ok (.invokevirtual 385, 3) := by decide +kernel
theorem dX8_laysOperand_30 : decode cX8_laysOperand 30 = .ok (.aload_n 0, 1) := by decide +kernel
theorem dX8_laysOperand_31 : decode cX8_laysOperand 31 = .ok (.getfield 65, 3) := by decide +kernel
theorem dX8_laysOperand_34 : decode cX8_laysOperand 34 = .ok (.iload_n 3, 1) := by decide +kernel
theorem dX8_laysOperand_35 : decode cX8_laysOperand 35 = .ok (.invokestatic 358, 3) := by decide +kernel
theorem dX8_laysOperand_38 : decode cX8_laysOperand 38 = .ok (.aload_n 0, 1) := by decide +kernel
theorem dX8_laysOperand_39 : decode cX8_laysOperand 39 = .ok (.getfield 34, 3) := by decide +kernel
theorem dX8_laysOperand_42 : decode cX8_laysOperand 42 = .ok (.iconst 4, 1) := by decide +kernel
theorem dX8_laysOperand_43 : decode cX8_laysOperand 43 = .ok (.iload_n 1, 1) := by decide +kernel
theorem dX8_laysOperand_44 : decode cX8_laysOperand 44 = .ok (.imul, 1) := by decide +kernel
theorem dX8_laysOperand_45 : decode cX8_laysOperand 45 = .ok (.iload_n 2, 1) := by decide +kernel
theorem dX8_laysOperand_46 : decode cX8_laysOperand 46 = .ok (.iadd, 1) := by decide +kernel
theorem dX8_laysOperand_47 : decode cX8_laysOperand 47 = .ok (.iaload, 1) := by decide +kernel
theorem dX8_laysOperand_48 : decode cX8_laysOperand 48 = .ok (.i2l, 1) := by decide +kernel
theorem dX8_laysOperand_49 : decode cX8_laysOperand 49 = .ok (.lastore, 1) := by decide +kernel
theorem dX8_laysOperand_50 : decode cX8_laysOperand 50 = .ok (.goto 23, 3) := by decide +kernel
theorem dX8_laysOperand_53 : decode cX8_laysOperand 53 = .ok (.aload_n 0, 1) := by decide +kernel
theorem dX8_laysOperand_54 : decode cX8_laysOperand 54 = .ok (.iload_n 3, 1) := by decide +kernel
theorem dX8_laysOperand_55 : decode cX8_laysOperand 55 = .ok (.iconst 0, 1) := by decide +kernel
theorem dX8_laysOperand_56 : decode cX8_laysOperand 56 = .ok (.iload 5, 2) := by decide +kernel
theorem dX8_laysOperand_58 : decode cX8_laysOperand 58 = .ok (.iadd, 1) := by decide +kernel
theorem dX8_laysOperand_59 : decode cX8_laysOperand 59 = .ok (.invokevirtual 375, 3) := by decide +kernel
theorem dX8_laysOperand_62 : decode cX8_laysOperand 62 = .ok (.aload_n 0, 1) := by decide +kernel
theorem dX8_laysOperand_63 : decode cX8_laysOperand 63 = .ok (.iload 4, 2) := by decide +kernel
theorem dX8_laysOperand_65 : decode cX8_laysOperand 65 = .ok (.bipush 15, 2) := by decide +kernel
theorem dX8_laysOperand_67 : decode cX8_laysOperand 67 = .ok (.iload 5, 2) := by decide +kernel
theorem dX8_laysOperand_69 : decode cX8_laysOperand 69 = .ok (.iadd, 1) := by decide +kernel
theorem dX8_laysOperand_70 : decode cX8_laysOperand 70 = .ok (.invokevirtual 375, 3) := by decide +kernel
theorem dX8_laysOperand_73 : decode cX8_laysOperand 73 = .ok (.return_, 1) := by decide +kernel
theorem dX8_bit_0 : decode cX8_bit 0 = .ok (.iload_n 0, 1) := by decide +kernel
theorem dX8_bit_1 : decode cX8_bit 1 = .ok (.ifCond .eq 7, 3) := by decide +kernel
theorem dX8_bit_4 : decode cX8_bit 4 = .ok (.iload_n 1, 1) := by decide +kernel
theorem dX8_bit_5 : decode cX8_bit 5 = .ok (.goto 4, 3) := by decide +kernel
theorem dX8_bit_8 : decode cX8_bit 8 = .ok (.iconst 0, 1) := by decide +kernel
theorem dX8_bit_9 : decode cX8_bit 9 = .ok (.ireturn, 1) := by decide +kernel
theorem dX8_laysTimes_0 : decode cX8_laysTimes 0 = .ok (.aload_n 0, 1) := by decide +kernel
theorem dX8_laysTimes_1 : decode cX8_laysTimes 1 = .ok (.iconst 0, 1) := by decide +kernel
theorem dX8_laysTimes_2 : decode cX8_laysTimes 2 = .ok (.iload_n 1, 1) := by decide +kernel
theorem dX8_laysTimes_3 : decode cX8_laysTimes 3 = .ok (.iadd, 1) := by decide +kernel
theorem dX8_laysTimes_4 : decode cX8_laysTimes 4 = .ok (.bipush 30, 2) := by decide +kernel
theorem dX8_laysTimes_6 : decode cX8_laysTimes 6 = .ok (.bipush 32, 2) := by decide +kernel
theorem dX8_laysTimes_8 : decode cX8_laysTimes 8 = .ok (.invokevirtual 388, 3) := by decide +kernel
theorem dX8_laysTimes_11 : decode cX8_laysTimes 11 = .ok (.aload_n 0, 1) := by decide +kernel
theorem dX8_laysTimes_12 : decode cX8_laysTimes 12 = .ok (.bipush 38, 2) := by decide +kernel
theorem dX8_laysTimes_14 : decode cX8_laysTimes 14 = .ok (.bipush 30, 2) := by decide +kernel
theorem dX8_laysTimes_16 : decode cX8_laysTimes 16 = .ok (.bipush 33, 2) := by decide +kernel
theorem dX8_laysTimes_18 : decode cX8_laysTimes 18 = .ok (.invokevirtual 388, 3) := by decide +kernel
theorem dX8_laysTimes_21 : decode cX8_laysTimes 21 = .ok (.aload_n 0, 1) := by decide +kernel
theorem dX8_laysTimes_22 : decode cX8_laysTimes 22 = .ok (.bipush 39, 2) := by decide +kernel
theorem dX8_laysTimes_24 : decode cX8_laysTimes 24 = .ok (.bipush 31, 2) := by decide +kernel
theorem dX8_laysTimes_26 : decode cX8_laysTimes 26 = .ok (.bipush 32, 2) := by decide +kernel
theorem dX8_laysTimes_28 : decode cX8_laysTimes 28 = .ok (.invokevirtual 388, 3) := by decide +kernel
theorem dX8_laysTimes_31 : decode cX8_laysTimes 31 = .ok (.aload_n 0, 1) := by decide +kernel
theorem dX8_laysTimes_32 : decode cX8_laysTimes 32 = .ok (.bipush 40, 2) := by decide +kernel
theorem dX8_laysTimes_34 : decode cX8_laysTimes 34 = .ok (.bipush 31, 2) := by decide +kernel
theorem dX8_laysTimes_36 : decode cX8_laysTimes 36 = .ok (.bipush 33, 2) := by decide +kernel
theorem dX8_laysTimes_38 : decode cX8_laysTimes 38 = .ok (.invokevirtual 388, 3) := by decide +kernel
theorem dX8_laysTimes_41 : decode cX8_laysTimes 41 = .ok (.aload_n 0, 1) := by decide +kernel
theorem dX8_laysTimes_42 : decode cX8_laysTimes 42 = .ok (.bipush 38, 2) := by decide +kernel
theorem dX8_laysTimes_44 : decode cX8_laysTimes 44 = .ok (.bipush 38, 2) := by decide +kernel
theorem dX8_laysTimes_46 : decode cX8_laysTimes 46 = .ok (.bipush 39, 2) := by decide +kernel
theorem dX8_laysTimes_48 : decode cX8_laysTimes 48 = .ok (.lconst 1, 1) := by decide +kernel
theorem dX8_laysTimes_49 : decode cX8_laysTimes 49 = .ok (.invokevirtual 392, 3) := by decide +kernel
theorem dX8_laysTimes_52 : decode cX8_laysTimes 52 = .ok (.aload_n 0, 1) := by decide +kernel
theorem dX8_laysTimes_53 : decode cX8_laysTimes 53 = .ok (.bipush 15, 2) := by decide +kernel
theorem dX8_laysTimes_55 : decode cX8_laysTimes 55 = .ok (.iload_n 1, 1) := by decide +kernel
theorem dX8_laysTimes_56 : decode cX8_laysTimes 56 = .ok (.iadd, 1) := by decide +kernel
theorem dX8_laysTimes_57 : decode cX8_laysTimes 57 = .ok (.bipush 38, 2) := by decide +kernel
theorem dX8_laysTimes_59 : decode cX8_laysTimes 59 = .ok (.bipush 40, 2) := by decide +kernel
theorem dX8_laysTimes_61 : decode cX8_laysTimes 61 = .ok (.lconst 1, 1) := by decide +kernel
theorem dX8_laysTimes_62 : decode cX8_laysTimes 62 = .ok (.invokevirtual 392, 3) := by decide +kernel
theorem dX8_laysTimes_65 : decode cX8_laysTimes 65 = .ok (.return_, 1) := by decide +kernel
theorem dX8_meets_0 : decode cX8_meets 0 = .ok (.lload_n 0, 1) := by decide +kernel
theorem dX8_meets_1 : decode cX8_meets 1 = .ok (.lload 4, 2) := by decide +kernel
theorem dX8_meets_3 : decode cX8_meets 3 = .ok (.lcmp, 1) := by decide +kernel
theorem dX8_meets_4 : decode cX8_meets 4 = .ok (.ifCond .le 7, 3) := by decide +kernel
theorem dX8_meets_7 : decode cX8_meets 7 = .ok (.lload_n 0, 1) := by decide +kernel
theorem dX8_meets_8 : decode cX8_meets 8 = .ok (.goto 5, 3) := by decide +kernel
theorem dX8_meets_11 : decode cX8_meets 11 = .ok (.lload 4, 2) := by decide +kernel
theorem dX8_meets_13 : decode cX8_meets 13 = .ok (.lload_n 2, 1) := by decide +kernel
theorem dX8_meets_14 : decode cX8_meets 14 = .ok (.lload 6, 2) := by decide +kernel
theorem dX8_meets_16 : decode cX8_meets 16 = .ok (.lcmp, 1) := by decide +kernel
theorem dX8_meets_17 : decode cX8_meets 17 = .ok (.ifCond .ge 7, 3) := by decide +kernel
theorem dX8_meets_20 : decode cX8_meets 20 = .ok (.lload_n 2, 1) := by decide +kernel
theorem dX8_meets_21 : decode cX8_meets 21 = .ok (.goto 5, 3) := by decide +kernel
theorem dX8_meets_24 : decode cX8_meets 24 = .ok (.lload 6, 2) := by decide +kernel
theorem dX8_meets_26 : decode cX8_meets 26 = .ok (.lcmp, 1) := by decide +kernel
theorem dX8_meets_27 : decode cX8_meets 27 = .ok (.ifCond .gt 7, 3) := by decide +kernel
theorem dX8_meets_30 : decode cX8_meets 30 = .ok (.iconst 1, 1) := by decide +kernel
theorem dX8_meets_31 : decode cX8_meets 31 = .ok (.goto 4, 3) := by decide +kernel
theorem dX8_meets_34 : decode cX8_meets 34 = .ok (.iconst 0, 1) := by decide +kernel
theorem dX8_meets_35 : decode cX8_meets 35 = .ok (.ireturn, 1) := by decide +kernel
theorem dX8_laysPick_0 : decode cX8_laysPick 0 = .ok (.aload_n 0, 1) := by decide +kernel
theorem dX8_laysPick_1 : decode cX8_laysPick 1 = .ok (.iload_n 1, 1) := by decide +kernel
theorem dX8_laysPick_2 : decode cX8_laysPick 2 = .ok (.iconst 2, 1) := by decide +kernel
theorem dX8_laysPick_3 : decode cX8_laysPick 3 = .ok (.bipush 34, 2) := by decide +kernel
theorem dX8_laysPick_5 : decode cX8_laysPick 5 = .ok (.bipush 35, 2) := by decide +kernel
theorem dX8_laysPick_7 : decode cX8_laysPick 7 = .ok (.invokevirtual 396, 3) := by decide +kernel
theorem dX8_laysPick_10 : decode cX8_laysPick 10 = .ok (.aload_n 0, 1) := by decide +kernel
theorem dX8_laysPick_11 : decode cX8_laysPick 11 = .ok (.iload_n 1, 1) := by decide +kernel
theorem dX8_laysPick_12 : decode cX8_laysPick 12 = .ok (.iconst 3, 1) := by decide +kernel
theorem dX8_laysPick_13 : decode cX8_laysPick 13 = .ok (.bipush 36, 2) := by decide +kernel
theorem dX8_laysPick_15 : decode cX8_laysPick 15 = .ok (.bipush 37, 2) := by decide +kernel
theorem dX8_laysPick_17 : decode cX8_laysPick 17 = .ok (.invokevirtual 396, 3) := by decide +kernel
theorem dX8_laysPick_20 : decode cX8_laysPick 20 = .ok (.aload_n 0, 1) := by decide +kernel
theorem dX8_laysPick_21 : decode cX8_laysPick 21 = .ok (.bipush 38, 2) := by decide +kernel
theorem dX8_laysPick_23 : decode cX8_laysPick 23 = .ok (.bipush 30, 2) := by decide +kernel
theorem dX8_laysPick_25 : decode cX8_laysPick 25 = .ok (.bipush 32, 2) := by decide +kernel
theorem dX8_laysPick_27 : decode cX8_laysPick 27 = .ok (.ldc2_w 400, 3) := by decide +kernel
theorem dX8_laysPick_30 : decode cX8_laysPick 30 = .ok (.invokevirtual 392, 3) := by decide +kernel
theorem dX8_laysPick_33 : decode cX8_laysPick 33 = .ok (.aload_n 0, 1) := by decide +kernel
theorem dX8_laysPick_34 : decode cX8_laysPick 34 = .ok (.bipush 39, 2) := by decide +kernel
theorem dX8_laysPick_36 : decode cX8_laysPick 36 = .ok (.bipush 31, 2) := by decide +kernel
theorem dX8_laysPick_38 : decode cX8_laysPick 38 = .ok (.bipush 33, 2) := by decide +kernel
theorem dX8_laysPick_40 : decode cX8_laysPick 40 = .ok (.ldc2_w 400, 3) := by decide +kernel
theorem dX8_laysPick_43 : decode cX8_laysPick 43 = .ok (.invokevirtual 392, 3) := by decide +kernel
theorem dX8_laysPick_46 : decode cX8_laysPick 46 = .ok (.aload_n 0, 1) := by decide +kernel
theorem dX8_laysPick_47 : decode cX8_laysPick 47 = .ok (.bipush 38, 2) := by decide +kernel
theorem dX8_laysPick_49 : decode cX8_laysPick 49 = .ok (.invokevirtual 379, 3) := by decide +kernel
theorem dX8_laysPick_52 : decode cX8_laysPick 52 = .ok (.lstore_n 2, 1) := by decide +kernel
theorem dX8_laysPick_53 : decode cX8_laysPick 53 = .ok (.aload_n 0, 1) := by decide +kernel
theorem dX8_laysPick_54 : decode cX8_laysPick 54 = .ok (.bipush 38, 2) := by decide +kernel
theorem dX8_laysPick_56 : decode cX8_laysPick 56 = .ok (.invokevirtual 382, 3) := by decide +kernel
theorem dX8_laysPick_59 : decode cX8_laysPick 59 = .ok (.lstore 4, 2) := by decide +kernel
theorem dX8_laysPick_61 : decode cX8_laysPick 61 = .ok (.aload_n 0, 1) := by decide +kernel
theorem dX8_laysPick_62 : decode cX8_laysPick 62 = .ok (.bipush 39, 2) := by decide +kernel
theorem dX8_laysPick_64 : decode cX8_laysPick 64 = .ok (.invokevirtual 379, 3) := by decide +kernel
theorem dX8_laysPick_67 : decode cX8_laysPick 67 = .ok (.lstore 6, 2) := by decide +kernel
theorem dX8_laysPick_69 : decode cX8_laysPick 69 = .ok (.aload_n 0, 1) := by decide +kernel
theorem dX8_laysPick_70 : decode cX8_laysPick 70 = .ok (.bipush 39, 2) := by decide +kernel
theorem dX8_laysPick_72 : decode cX8_laysPick 72 = .ok (.invokevirtual 382, 3) := by decide +kernel
theorem dX8_laysPick_75 : decode cX8_laysPick 75 = .ok (.lstore 8, 2) := by decide +kernel
theorem dX8_laysPick_77 : decode cX8_laysPick 77 = .ok (.lload_n 2, 1) := by decide +kernel
theorem dX8_laysPick_78 : decode cX8_laysPick 78 = .ok (.lconst 0, 1) := by decide +kernel
theorem dX8_laysPick_79 : decode cX8_laysPick 79 = .ok (.lcmp, 1) := by decide +kernel
theorem dX8_laysPick_80 : decode cX8_laysPick 80 = .ok (.ifCond .ge 7, 3) := by decide +kernel
theorem dX8_laysPick_83 : decode cX8_laysPick 83 = .ok (.iconst 1, 1) := by decide +kernel
theorem dX8_laysPick_84 : decode cX8_laysPick 84 = .ok (.goto 4, 3) := by decide +kernel
theorem dX8_laysPick_87 : decode cX8_laysPick 87 = .ok (.iconst 0, 1) := by decide +kernel
theorem dX8_laysPick_88 : decode cX8_laysPick 88 = .ok (.istore 10, 2) := by decide +kernel
theorem dX8_laysPick_90 : decode cX8_laysPick 90 = .ok (.lload 4, 2) := by decide +kernel
theorem dX8_laysPick_92 : decode cX8_laysPick 92 = .ok (.lconst 0, 1) := by decide +kernel
theorem dX8_laysPick_93 : decode cX8_laysPick 93 = .ok (.lcmp, 1) := by decide +kernel
theorem dX8_laysPick_94 : decode cX8_laysPick 94 = .ok (.ifCond .lt 7, 3) := by decide +kernel
theorem dX8_laysPick_97 : decode cX8_laysPick 97 = .ok (.iconst 1, 1) := by decide +kernel
theorem dX8_laysPick_98 : decode cX8_laysPick 98 = .ok (.goto 4, 3) := by decide +kernel
theorem dX8_laysPick_101 : decode cX8_laysPick 101 = .ok (.iconst 0, 1) := by decide +kernel
theorem dX8_laysPick_102 : decode cX8_laysPick 102 = .ok (.istore 11, 2) := by decide +kernel
theorem dX8_laysPick_104 : decode cX8_laysPick 104 = .ok (.lload_n 2, 1) := by decide +kernel
theorem dX8_laysPick_105 : decode cX8_laysPick 105 = .ok (.lload 6, 2) := by decide +kernel
theorem dX8_laysPick_107 : decode cX8_laysPick 107 = .ok (.ladd, 1) := by decide +kernel
theorem dX8_laysPick_108 : decode cX8_laysPick 108 = .ok (.lconst 0, 1) := by decide +kernel
theorem dX8_laysPick_109 : decode cX8_laysPick 109 = .ok (.lcmp, 1) := by decide +kernel
theorem dX8_laysPick_110 : decode cX8_laysPick 110 = .ok (.ifCond .ge 7, 3) := by decide +kernel
theorem dX8_laysPick_113 : decode cX8_laysPick 113 = .ok (.iconst 1, 1) := by decide +kernel
theorem dX8_laysPick_114 : decode cX8_laysPick 114 = .ok (.goto 4, 3) := by decide +kernel
theorem dX8_laysPick_117 : decode cX8_laysPick 117 = .ok (.iconst 0, 1) := by decide +kernel
theorem dX8_laysPick_118 : decode cX8_laysPick 118 = .ok (.istore 12, 2) := by decide +kernel
theorem dX8_laysPick_120 : decode cX8_laysPick 120 = .ok (.lload 4, 2) := by decide +kernel
theorem dX8_laysPick_122 : decode cX8_laysPick 122 = .ok (.lload 8, 2) := by decide +kernel
theorem dX8_laysPick_124 : decode cX8_laysPick 124 = .ok (.ladd, 1) := by decide +kernel
theorem dX8_laysPick_125 : decode cX8_laysPick 125 = .ok (.lconst 0, 1) := by decide +kernel
theorem dX8_laysPick_126 : decode cX8_laysPick 126 = .ok (.lcmp, 1) := by decide +kernel
theorem dX8_laysPick_127 : decode cX8_laysPick 127 = .ok (.ifCond .lt 7, 3) := by decide +kernel
theorem dX8_laysPick_130 : decode cX8_laysPick 130 = .ok (.iconst 1, 1) := by decide +kernel
theorem dX8_laysPick_131 : decode cX8_laysPick 131 = .ok (.goto 4, 3) := by decide +kernel
theorem dX8_laysPick_134 : decode cX8_laysPick 134 = .ok (.iconst 0, 1) := by decide +kernel
theorem dX8_laysPick_135 : decode cX8_laysPick 135 = .ok (.istore 13, 2) := by decide +kernel
theorem dX8_laysPick_137 : decode cX8_laysPick 137 = .ok (.lload_n 2, 1) := by decide +kernel
theorem dX8_laysPick_138 : decode cX8_laysPick 138 = .ok (.lload 4, 2) := by decide +kernel
theorem dX8_laysPick_140 : decode cX8_laysPick 140 = .ok (.lload 8, 2) := by decide +kernel
theorem dX8_laysPick_142 : decode cX8_laysPick 142 = .ok (.lneg, 1) := by decide +kernel
theorem dX8_laysPick_143 : decode cX8_laysPick 143 = .ok (.ldc2_w 400, 3) := by decide +kernel
theorem dX8_laysPick_146 : decode cX8_laysPick 146 = .ok (.invokestatic 402, 3) := by decide +kernel
theorem dX8_laysPick_149 : decode cX8_laysPick 149 = .ok (.istore 14, 2) := by decide +kernel
theorem dX8_laysPick_151 : decode cX8_laysPick 151 = .ok (.lload_n 2, 1) := by decide +kernel
theorem dX8_laysPick_152 : decode cX8_laysPick 152 = .ok (.lload 4, 2) := by decide +kernel
theorem dX8_laysPick_154 : decode cX8_laysPick 154 = .ok (.lconst 0, 1) := by decide +kernel
theorem dX8_laysPick_155 : decode cX8_laysPick 155 = .ok (.lload 6, 2) := by decide +kernel
theorem dX8_laysPick_157 : decode cX8_laysPick 157 = .ok (.lneg, 1) := by decide +kernel
theorem dX8_laysPick_158 : decode cX8_laysPick 158 = .ok (.lconst 1, 1) := by decide +kernel
theorem dX8_laysPick_159 : decode cX8_laysPick 159 = .ok (.lsub, 1) := by decide +kernel
theorem dX8_laysPick_160 : decode cX8_laysPick 160 = .ok (.invokestatic 402, 3) := by decide +kernel
theorem dX8_laysPick_163 : decode cX8_laysPick 163 = .ok (.istore 15, 2) := by decide +kernel
theorem dX8_laysPick_165 : decode cX8_laysPick 165 = .ok (.aload_n 0, 1) := by decide +kernel
theorem dX8_laysPick_166 : decode cX8_laysPick 166 = .ok (.getfield 80, 3) := by decide +kernel
theorem dX8_laysPick_169 : decode cX8_laysPick 169 = .ok (.iload_n 1, 1) := by decide +kernel
theorem dX8_laysPick_170 : decode cX8_laysPick 170 = .ok (.iload 10, 2) := by decide +kernel
theorem dX8_laysPick_172 : decode cX8_laysPick 172 = .ok (.iconst 1, 1) := by decide +kernel
theorem dX8_laysPick_173 : decode cX8_laysPick 173 = .ok (.invokestatic 406, 3) := by decide +kernel
theorem dX8_laysPick_176 : decode cX8_laysPick 176 = .ok (.iload 11, 2) := by decide +kernel
theorem dX8_laysPick_178 : decode cX8_laysPick 178 = .ok (.iconst 2, 1) := by decide +kernel
theorem dX8_laysPick_179 : decode cX8_laysPick 179 = .ok (.invokestatic 406, 3) := by decide +kernel
theorem dX8_laysPick_182 : decode cX8_laysPick 182 = .ok (.iadd, 1) := by decide +kernel
theorem dX8_laysPick_183 : decode cX8_laysPick 183 = .ok (.iload 12, 2) := by decide +kernel
theorem dX8_laysPick_185 : decode cX8_laysPick 185 = .ok (.iconst 4, 1) := by decide +kernel
theorem dX8_laysPick_186 : decode cX8_laysPick 186 = .ok (.invokestatic 406, 3) := by decide +kernel
theorem dX8_laysPick_189 : decode cX8_laysPick 189 = .ok (.iadd, 1) := by decide +kernel
theorem dX8_laysPick_190 : decode cX8_laysPick 190 = .ok (.iload 13, 2) := by decide +kernel
theorem dX8_laysPick_192 : decode cX8_laysPick 192 = .ok (.bipush 8, 2) := by decide +kernel
theorem dX8_laysPick_194 : decode cX8_laysPick 194 = .ok (.invokestatic 406, 3) := by decide +kernel
theorem dX8_laysPick_197 : decode cX8_laysPick 197 = .ok (.iadd, 1) := by decide +kernel
theorem dX8_laysPick_198 : decode cX8_laysPick 198 = .ok (.iload 14, 2) := by decide +kernel
theorem dX8_laysPick_200 : decode cX8_laysPick 200 = .ok (.bipush 16, 2) := by decide +kernel
theorem dX8_laysPick_202 : decode cX8_laysPick 202 = .ok (.invokestatic 406, 3) := by decide +kernel
theorem dX8_laysPick_205 : decode cX8_laysPick 205 = .ok (.iadd, 1) := by decide +kernel
theorem dX8_laysPick_206 : decode cX8_laysPick 206 = .ok (.iload 15, 2) := by decide +kernel
theorem dX8_laysPick_208 : decode cX8_laysPick 208 = .ok (.bipush 32, 2) := by decide +kernel
theorem dX8_laysPick_210 : decode cX8_laysPick 210 = .ok (.invokestatic 406, 3) := by decide +kernel
theorem dX8_laysPick_213 : decode cX8_laysPick 213 = .ok (.iadd, 1) := by decide +kernel
theorem dX8_laysPick_214 : decode cX8_laysPick 214 = .ok (.iastore, 1) := by decide +kernel
theorem dX8_laysPick_215 : decode cX8_laysPick 215 = .ok (.aload_n 0, 1) := by decide +kernel
theorem dX8_laysPick_216 : decode cX8_laysPick 216 = .ok (.iconst 0, 1) := by decide +kernel
theorem dX8_laysPick_217 : decode cX8_laysPick 217 = .ok (.putfield 372, 3) := by decide +kernel
theorem dX8_laysPick_220 : decode cX8_laysPick 220 = .ok (.iload 10, 2) := by decide +kernel
theorem dX8_laysPick_222 : decode cX8_laysPick 222 = .ok (.ifCond .eq 9, 3) := by decide +kernel
theorem dX8_laysPick_225 : decode cX8_laysPick 225 = .ok (.aload_n 0, 1) := by decide +kernel
theorem dX8_laysPick_226 : decode cX8_laysPick 226 = .ok (.bipush 34, 2) := by decide +kernel
theorem dX8_laysPick_228 : decode cX8_laysPick 228 = .ok (.invokevirtual 410, 3) := by decide +kernel
theorem dX8_laysPick_231 : decode cX8_laysPick 231 = .ok (.iload 11, 2) := by decide +kernel
theorem dX8_laysPick_233 : decode cX8_laysPick 233 = .ok (.ifCond .eq 9, 3) := by decide +kernel
theorem dX8_laysPick_236 : decode cX8_laysPick 236 = .ok (.aload_n 0, 1) := by decide +kernel
theorem dX8_laysPick_237 : decode cX8_laysPick 237 = .ok (.bipush 36, 2) := by decide +kernel
theorem dX8_laysPick_239 : decode cX8_laysPick 239 = .ok (.invokevirtual 410, 3) := by decide +kernel
theorem dX8_laysPick_242 : decode cX8_laysPick 242 = .ok (.aload_n 0, 1) := by decide +kernel
theorem dX8_laysPick_243 : decode cX8_laysPick 243 = .ok (.iconst 0, 1) := by decide +kernel
theorem dX8_laysPick_244 : decode cX8_laysPick 244 = .ok (.iload_n 1, 1) := by decide +kernel
theorem dX8_laysPick_245 : decode cX8_laysPick 245 = .ok (.iadd, 1) := by decide +kernel
theorem dX8_laysPick_246 : decode cX8_laysPick 246 = .ok (.invokevirtual 413, 3) := by decide +kernel
theorem dX8_laysPick_249 : decode cX8_laysPick 249 = .ok (.aload_n 0, 1) := by decide +kernel
theorem dX8_laysPick_250 : decode cX8_laysPick 250 = .ok (.bipush 40, 2) := by decide +kernel
theorem dX8_laysPick_252 : decode cX8_laysPick 252 = .ok (.bipush 36, 2) := by decide +kernel
theorem dX8_laysPick_254 : decode cX8_laysPick 254 = .ok (.bipush 37, 2) := by decide +kernel
theorem dX8_laysPick_256 : decode cX8_laysPick 256 = .ok (.lconst 1, 1) := by decide +kernel
theorem dX8_laysPick_257 : decode cX8_laysPick 257 = .ok (.invokevirtual 392, 3) := by decide +kernel
theorem dX8_laysPick_260 : decode cX8_laysPick 260 = .ok (.aload_n 0, 1) := by decide +kernel
theorem dX8_laysPick_261 : decode cX8_laysPick 261 = .ok (.bipush 40, 2) := by decide +kernel
theorem dX8_laysPick_263 : decode cX8_laysPick 263 = .ok (.bipush 40, 2) := by decide +kernel
theorem dX8_laysPick_265 : decode cX8_laysPick 265 = .ok (.bipush 34, 2) := by decide +kernel
theorem dX8_laysPick_267 : decode cX8_laysPick 267 = .ok (.ldc2_w 400, 3) := by decide +kernel
theorem dX8_laysPick_270 : decode cX8_laysPick 270 = .ok (.invokevirtual 392, 3) := by decide +kernel
theorem dX8_laysPick_273 : decode cX8_laysPick 273 = .ok (.aload_n 0, 1) := by decide +kernel
theorem dX8_laysPick_274 : decode cX8_laysPick 274 = .ok (.bipush 41, 2) := by decide +kernel
theorem dX8_laysPick_276 : decode cX8_laysPick 276 = .ok (.bipush 34, 2) := by decide +kernel
theorem dX8_laysPick_278 : decode cX8_laysPick 278 = .ok (.bipush 35, 2) := by decide +kernel
theorem dX8_laysPick_280 : decode cX8_laysPick 280 = .ok (.lconst 1, 1) := by decide +kernel
theorem dX8_laysPick_281 : decode cX8_laysPick 281 = .ok (.invokevirtual 392, 3) := by decide +kernel
theorem dX8_laysPick_284 : decode cX8_laysPick 284 = .ok (.aload_n 0, 1) := by decide +kernel
theorem dX8_laysPick_285 : decode cX8_laysPick 285 = .ok (.bipush 41, 2) := by decide +kernel
theorem dX8_laysPick_287 : decode cX8_laysPick 287 = .ok (.bipush 41, 2) := by decide +kernel
theorem dX8_laysPick_289 : decode cX8_laysPick 289 = .ok (.bipush 36, 2) := by decide +kernel
theorem dX8_laysPick_291 : decode cX8_laysPick 291 = .ok (.ldc2_w 400, 3) := by decide +kernel
theorem dX8_laysPick_294 : decode cX8_laysPick 294 = .ok (.invokevirtual 392, 3) := by decide +kernel
theorem dX8_laysPick_297 : decode cX8_laysPick 297 = .ok (.aload_n 0, 1) := by decide +kernel
theorem dX8_laysPick_298 : decode cX8_laysPick 298 = .ok (.iconst 0, 1) := by decide +kernel
theorem dX8_laysPick_299 : decode cX8_laysPick 299 = .ok (.putfield 372, 3) := by decide +kernel
theorem dX8_laysPick_302 : decode cX8_laysPick 302 = .ok (.iload 10, 2) := by decide +kernel
theorem dX8_laysPick_304 : decode cX8_laysPick 304 = .ok (.ifCond .eq 14, 3) := by decide +kernel
theorem dX8_laysPick_307 : decode cX8_laysPick 307 = .ok (.iload 12, 2) := by decide +kernel
theorem dX8_laysPick_309 : decode cX8_laysPick 309 = .ok (.ifCond .eq 9, 3) := by decide +kernel
theorem dX8_laysPick_312 : decode cX8_laysPick 312 = .ok (.aload_n 0, 1) := by decide +kernel
theorem dX8_laysPick_313 : decode cX8_laysPick 313 = .ok (.bipush 35, 2) := by decide +kernel
theorem dX8_laysPick_315 : decode cX8_laysPick 315 = .ok (.invokevirtual 410, 3) := by decide +kernel
theorem dX8_laysPick_318 : decode cX8_laysPick 318 = .ok (.iload 11, 2) := by decide +kernel
theorem dX8_laysPick_320 : decode cX8_laysPick 320 = .ok (.ifCond .eq 14, 3) := by decide +kernel
theorem dX8_laysPick_323 : decode cX8_laysPick 323 = .ok (.iload 13, 2) := by decide +kernel
theorem dX8_laysPick_325 : decode cX8_laysPick 325 = .ok (.ifCond .eq 9, 3) := by decide +kernel
theorem dX8_laysPick_328 : decode cX8_laysPick 328 = .ok (.aload_n 0, 1) := by decide +kernel
theorem dX8_laysPick_329 : decode cX8_laysPick 329 = .ok (.bipush 37, 2) := by decide +kernel
theorem dX8_laysPick_331 : decode cX8_laysPick 331 = .ok (.invokevirtual 410, 3) := by decide +kernel
theorem dX8_laysPick_334 : decode cX8_laysPick 334 = .ok (.iload 14, 2) := by decide +kernel
theorem dX8_laysPick_336 : decode cX8_laysPick 336 = .ok (.ifCond .eq 9, 3) := by decide +kernel
theorem dX8_laysPick_339 : decode cX8_laysPick 339 = .ok (.aload_n 0, 1) := by decide +kernel
theorem dX8_laysPick_340 : decode cX8_laysPick 340 = .ok (.bipush 40, 2) := by decide +kernel
theorem dX8_laysPick_342 : decode cX8_laysPick 342 = .ok (.invokevirtual 410, 3) := by decide +kernel
theorem dX8_laysPick_345 : decode cX8_laysPick 345 = .ok (.iload 15, 2) := by decide +kernel
theorem dX8_laysPick_347 : decode cX8_laysPick 347 = .ok (.ifCond .eq 9, 3) := by decide +kernel
theorem dX8_laysPick_350 : decode cX8_laysPick 350 = .ok (.aload_n 0, 1) := by decide +kernel
theorem dX8_laysPick_351 : decode cX8_laysPick 351 = .ok (.bipush 41, 2) := by decide +kernel
theorem dX8_laysPick_353 : decode cX8_laysPick 353 = .ok (.invokevirtual 410, 3) := by decide +kernel
theorem dX8_laysPick_356 : decode cX8_laysPick 356 = .ok (.aload_n 0, 1) := by decide +kernel
theorem dX8_laysPick_357 : decode cX8_laysPick 357 = .ok (.bipush 15, 2) := by decide +kernel
theorem dX8_laysPick_359 : decode cX8_laysPick 359 = .ok (.iload_n 1, 1) := by decide +kernel
theorem dX8_laysPick_360 : decode cX8_laysPick 360 = .ok (.iadd, 1) := by decide +kernel
theorem dX8_laysPick_361 : decode cX8_laysPick 361 = .ok (.invokevirtual 413, 3) := by decide +kernel
theorem dX8_laysPick_364 : decode cX8_laysPick 364 = .ok (.return_, 1) := by decide +kernel
theorem dX8_laysStep_0 : decode cX8_laysStep 0 = .ok (.aload_n 0, 1) := by decide +kernel
theorem dX8_laysStep_1 : decode cX8_laysStep 1 = .ok (.iload_n 1, 1) := by decide +kernel
theorem dX8_laysStep_2 : decode cX8_laysStep 2 = .ok (.putfield 365, 3) := by decide +kernel
theorem dX8_laysStep_5 : decode cX8_laysStep 5 = .ok (.aload_n 0, 1) := by decide +kernel
theorem dX8_laysStep_6 : decode cX8_laysStep 6 = .ok (.iload_n 1, 1) := by decide +kernel
theorem dX8_laysStep_7 : decode cX8_laysStep 7 = .ok (.iconst 0, 1) := by decide +kernel
theorem dX8_laysStep_8 : decode cX8_laysStep 8 = .ok (.bipush 30, 2) := by decide +kernel
theorem dX8_laysStep_10 : decode cX8_laysStep 10 = .ok (.bipush 31, 2) := by decide +kernel
theorem dX8_laysStep_12 : decode cX8_laysStep 12 = .ok (.invokevirtual 396, 3) := by decide +kernel
theorem dX8_laysStep_15 : decode cX8_laysStep 15 = .ok (.aload_n 0, 1) := by decide +kernel
theorem dX8_laysStep_16 : decode cX8_laysStep 16 = .ok (.iload_n 1, 1) := by decide +kernel
theorem dX8_laysStep_17 : decode cX8_laysStep 17 = .ok (.iconst 1, 1) := by decide +kernel
theorem dX8_laysStep_18 : decode cX8_laysStep 18 = .ok (.bipush 32, 2) := by decide +kernel
theorem dX8_laysStep_20 : decode cX8_laysStep 20 = .ok (.bipush 33, 2) := by decide +kernel
theorem dX8_laysStep_22 : decode cX8_laysStep 22 = .ok (.invokevirtual 396, 3) := by decide +kernel
theorem dX8_laysStep_25 : decode cX8_laysStep 25 = .ok (.aload_n 0, 1) := by decide +kernel
theorem dX8_laysStep_26 : decode cX8_laysStep 26 = .ok (.getfield 19, 3) := by decide +kernel
theorem dX8_laysStep_29 : decode cX8_laysStep 29 = .ok (.iload_n 1, 1) := by decide +kernel
theorem dX8_laysStep_30 : decode cX8_laysStep 30 = .ok (.iaload, 1) := by decide +kernel
theorem dX8_laysStep_31 : decode cX8_laysStep 31 = .ok (.iconst 2, 1) := by decide +kernel
theorem dX8_laysStep_32 : decode cX8_laysStep 32 = .ok (.if_icmp .ne 11, 3) := by decide +kernel
theorem dX8_laysStep_35 : decode cX8_laysStep 35 = .ok (.aload_n 0, 1) := by decide +kernel
theorem dX8_laysStep_36 : decode cX8_laysStep 36 = .ok (.iload_n 1, 1) := by decide +kernel
theorem dX8_laysStep_37 : decode cX8_laysStep 37 = .ok (.invokevirtual 416, 3) := by decide +kernel
theorem dX8_laysStep_40 : decode cX8_laysStep 40 = .ok (.goto 63, 3) := by decide +kernel
theorem dX8_laysStep_43 : decode cX8_laysStep 43 = .ok (.aload_n 0, 1) := by decide +kernel
theorem dX8_laysStep_44 : decode cX8_laysStep 44 = .ok (.getfield 19, 3) := by decide +kernel
theorem dX8_laysStep_47 : decode cX8_laysStep 47 = .ok (.iload_n 1, 1) := by decide +kernel
theorem dX8_laysStep_48 : decode cX8_laysStep 48 = .ok (.iaload, 1) := by decide +kernel
theorem dX8_laysStep_49 : decode cX8_laysStep 49 = .ok (.iconst 3, 1) := by decide +kernel
theorem dX8_laysStep_50 : decode cX8_laysStep 50 = .ok (.if_icmp .ne 11, 3) := by decide +kernel
theorem dX8_laysStep_53 : decode cX8_laysStep 53 = .ok (.aload_n 0, 1) := by decide +kernel
theorem dX8_laysStep_54 : decode cX8_laysStep 54 = .ok (.iload_n 1, 1) := by decide +kernel
theorem dX8_laysStep_55 : decode cX8_laysStep 55 = .ok (.invokevirtual 419, 3) := by decide +kernel
theorem dX8_laysStep_58 : decode cX8_laysStep 58 = .ok (.goto 45, 3) := by decide +kernel
theorem dX8_laysStep_61 : decode cX8_laysStep 61 = .ok (.aload_n 0, 1) := by decide +kernel
theorem dX8_laysStep_62 : decode cX8_laysStep 62 = .ok (.getfield 19, 3) := by decide +kernel
theorem dX8_laysStep_65 : decode cX8_laysStep 65 = .ok (.iload_n 1, 1) := by decide +kernel
theorem dX8_laysStep_66 : decode cX8_laysStep 66 = .ok (.iaload, 1) := by decide +kernel
theorem dX8_laysStep_67 : decode cX8_laysStep 67 = .ok (.ifCond .ne 7, 3) := by decide +kernel
theorem dX8_laysStep_70 : decode cX8_laysStep 70 = .ok (.lconst 1, 1) := by decide +kernel
theorem dX8_laysStep_71 : decode cX8_laysStep 71 = .ok (.goto 6, 3) := by decide +kernel
theorem dX8_laysStep_74 : decode cX8_laysStep 74 = .ok (.ldc2_w 400, 3) := by decide +kernel
theorem dX8_laysStep_77 : decode cX8_laysStep 77 = .ok (.lstore_n 2, 1) := by decide +kernel
theorem dX8_laysStep_78 : decode cX8_laysStep 78 = .ok (.aload_n 0, 1) := by decide +kernel
theorem dX8_laysStep_79 : decode cX8_laysStep 79 = .ok (.iconst 0, 1) := by decide +kernel
theorem dX8_laysStep_80 : decode cX8_laysStep 80 = .ok (.iload_n 1, 1) := by decide +kernel
theorem dX8_laysStep_81 : decode cX8_laysStep 81 = .ok (.iadd, 1) := by decide +kernel
theorem dX8_laysStep_82 : decode cX8_laysStep 82 = .ok (.bipush 30, 2) := by decide +kernel
theorem dX8_laysStep_84 : decode cX8_laysStep 84 = .ok (.bipush 32, 2) := by decide +kernel
theorem dX8_laysStep_86 : decode cX8_laysStep 86 = .ok (.lload_n 2, 1) := by decide +kernel
theorem dX8_laysStep_87 : decode cX8_laysStep 87 = .ok (.invokevirtual 392, 3) := by decide +kernel
theorem dX8_laysStep_90 : decode cX8_laysStep 90 = .ok (.aload_n 0, 1) := by decide +kernel
theorem dX8_laysStep_91 : decode cX8_laysStep 91 = .ok (.bipush 15, 2) := by decide +kernel
theorem dX8_laysStep_93 : decode cX8_laysStep 93 = .ok (.iload_n 1, 1) := by decide +kernel
theorem dX8_laysStep_94 : decode cX8_laysStep 94 = .ok (.iadd, 1) := by decide +kernel
theorem dX8_laysStep_95 : decode cX8_laysStep 95 = .ok (.bipush 31, 2) := by decide +kernel
theorem dX8_laysStep_97 : decode cX8_laysStep 97 = .ok (.bipush 33, 2) := by decide +kernel
theorem dX8_laysStep_99 : decode cX8_laysStep 99 = .ok (.lload_n 2, 1) := by decide +kernel
theorem dX8_laysStep_100 : decode cX8_laysStep 100 = .ok (.invokevirtual 392, 3) := by decide +kernel
theorem dX8_laysStep_103 : decode cX8_laysStep 103 = .ok (.aload_n 0, 1) := by decide +kernel
theorem dX8_laysStep_104 : decode cX8_laysStep 104 = .ok (.getfield 53, 3) := by decide +kernel
theorem dX8_laysStep_107 : decode cX8_laysStep 107 = .ok (.iload_n 1, 1) := by decide +kernel
theorem dX8_laysStep_108 : decode cX8_laysStep 108 = .ok (.iaload, 1) := by decide +kernel
theorem dX8_laysStep_109 : decode cX8_laysStep 109 = .ok (.aload_n 0, 1) := by decide +kernel
theorem dX8_laysStep_110 : decode cX8_laysStep 110 = .ok (.getfield 22, 3) := by decide +kernel
theorem dX8_laysStep_113 : decode cX8_laysStep 113 = .ok (.iload_n 1, 1) := by decide +kernel
theorem dX8_laysStep_114 : decode cX8_laysStep 114 = .ok (.iaload, 1) := by decide +kernel
theorem dX8_laysStep_115 : decode cX8_laysStep 115 = .ok (.if_icmp .ge 22, 3) := by decide +kernel
theorem dX8_laysStep_118 : decode cX8_laysStep 118 = .ok (.aload_n 0, 1) := by decide +kernel
theorem dX8_laysStep_119 : decode cX8_laysStep 119 = .ok (.bipush 15, 2) := by decide +kernel
theorem dX8_laysStep_121 : decode cX8_laysStep 121 = .ok (.iload_n 1, 1) := by decide +kernel
theorem dX8_laysStep_122 : decode cX8_laysStep 122 = .ok (.iadd, 1) := by decide +kernel
theorem dX8_laysStep_123 : decode cX8_laysStep 123 = .ok (.lconst 1, 1) := by decide +kernel
theorem dX8_laysStep_124 : decode cX8_laysStep 124 = .ok (.aload_n 0, 1) := by decide +kernel
theorem dX8_laysStep_125 : decode cX8_laysStep 125 = .ok (.getfield 22, 3) := by decide +kernel
theorem dX8_laysStep_128 : decode cX8_laysStep 128 = .ok (.iload_n 1, 1) := by decide +kernel
theorem dX8_laysStep_129 : decode cX8_laysStep 129 = .ok (.iaload, 1) := by decide +kernel
theorem dX8_laysStep_130 : decode cX8_laysStep 130 = .ok (.iconst 1, 1) := by decide +kernel
theorem dX8_laysStep_131 : decode cX8_laysStep 131 = .ok (.isub, 1) := by decide +kernel
theorem dX8_laysStep_132 : decode cX8_laysStep 132 = .ok (.lshl, 1) := by decide +kernel
theorem dX8_laysStep_133 : decode cX8_laysStep 133 = .ok (.iconst 3, 1) := by decide +kernel
theorem dX8_laysStep_134 : decode cX8_laysStep 134 = .ok (.invokevirtual 368, 3) := by decide +kernel
theorem dX8_laysStep_137 : decode cX8_laysStep 137 = .ok (.return_, 1) := by decide +kernel
theorem dX8_laysFormsBy_0 : decode cX8_laysFormsBy 0 = .ok (.aload_n 0, 1) := by decide +kernel
theorem dX8_laysFormsBy_1 : decode cX8_laysFormsBy 1 = .ok (.invokevirtual 313, 3) := by decide +kernel
theorem dX8_laysFormsBy_4 : decode cX8_laysFormsBy 4 = .ok (.aload_n 0, 1) := by decide +kernel
theorem dX8_laysFormsBy_5 : decode cX8_laysFormsBy 5 = .ok (.iconst 0, 1) := by decide +kernel
theorem dX8_laysFormsBy_6 : decode cX8_laysFormsBy 6 = .ok (.putfield 302, 3) := by decide +kernel
theorem dX8_laysFormsBy_9 : decode cX8_laysFormsBy 9 = .ok (.iconst 0, 1) := by decide +kernel
theorem dX8_laysFormsBy_10 : decode cX8_laysFormsBy 10 = .ok (.istore_n 1, 1) := by decide +kernel
theorem dX8_laysFormsBy_11 : decode cX8_laysFormsBy 11 = .ok (.iload_n 1, 1) := by decide +kernel
theorem dX8_laysFormsBy_12 : decode cX8_laysFormsBy 12 = .ok (.bipush 50, 2) := by decide +kernel
theorem dX8_laysFormsBy_14 : decode cX8_laysFormsBy 14 = .ok (.if_icmp .ge 14, 3) := by decide +kernel
theorem dX8_laysFormsBy_17 : decode cX8_laysFormsBy 17 = .ok (.aload_n 0, 1) := by decide +kernel
theorem dX8_laysFormsBy_18 : decode cX8_laysFormsBy 18 = .ok (.iload_n 1, 1) := by decide +kernel
theorem dX8_laysFormsBy_19 : decode cX8_laysFormsBy 19 = .ok (.invokevirtual 385, 3) := by decide +kernel
theorem dX8_laysFormsBy_22 : decode cX8_laysFormsBy 22 = .ok (.iinc 1 1, 3) := by decide +kernel
theorem dX8_laysFormsBy_25 : decode cX8_laysFormsBy 25 = .ok (.goto (-14), 3) := by decide +kernel
theorem dX8_laysFormsBy_28 : decode cX8_laysFormsBy 28 = .ok (.iconst 0, 1) := by decide +kernel
theorem dX8_laysFormsBy_29 : decode cX8_laysFormsBy 29 = .ok (.istore_n 1, 1) := by decide +kernel
theorem dX8_laysFormsBy_30 : decode cX8_laysFormsBy 30 = .ok (.iload_n 1, 1) := by decide +kernel
theorem dX8_laysFormsBy_31 : decode cX8_laysFormsBy 31 = .ok (.aload_n 0, 1) := by decide +kernel
theorem dX8_laysFormsBy_32 : decode cX8_laysFormsBy 32 = .ok (.getfield 259, 3) := by decide +kernel
theorem dX8_laysFormsBy_35 : decode cX8_laysFormsBy 35 = .ok (.if_icmp .ge 72, 3) := by decide +kernel
theorem dX8_laysFormsBy_38 : decode cX8_laysFormsBy 38 = .ok (.aload_n 0, 1) := by decide +kernel
theorem dX8_laysFormsBy_39 : decode cX8_laysFormsBy 39 = .ok (.getfield 19, 3) := by decide +kernel
theorem dX8_laysFormsBy_42 : decode cX8_laysFormsBy 42 = .ok (.iload_n 1, 1) := by decide +kernel
theorem dX8_laysFormsBy_43 : decode cX8_laysFormsBy 43 = .ok (.iaload, 1) := by decide +kernel
theorem dX8_laysFormsBy_44 : decode cX8_laysFormsBy 44 = .ok (.invokestatic 248, 3) := by decide +kernel
theorem dX8_laysFormsBy_47 : decode cX8_laysFormsBy 47 = .ok (.ifCond .eq 54, 3) := by decide +kernel
theorem dX8_laysFormsBy_50 : decode cX8_laysFormsBy 50 = .ok (.aload_n 0, 1) := by decide +kernel
theorem dX8_laysFormsBy_51 : decode cX8_laysFormsBy 51 = .ok (.iload_n 1, 1) := by decide +kernel
theorem dX8_laysFormsBy_52 : decode cX8_laysFormsBy 52 = .ok (.putfield 365, 3) := by decide +kernel
theorem dX8_laysFormsBy_55 : decode cX8_laysFormsBy 55 = .ok (.aload_n 0, 1) := by decide +kernel
theorem dX8_laysFormsBy_56 : decode cX8_laysFormsBy 56 = .ok (.getfield 77, 3) := by decide +kernel
theorem dX8_laysFormsBy_59 : decode cX8_laysFormsBy 59 = .ok (.iload_n 1, 1) := by decide +kernel
theorem dX8_laysFormsBy_60 : decode cX8_laysFormsBy 60 = .ok (.iaload, 1) := by decide +kernel
theorem dX8_laysFormsBy_61 : decode cX8_laysFormsBy 61 = .ok (.aload_n 0, 1) := by decide +kernel
theorem dX8_laysFormsBy_62 : decode cX8_laysFormsBy 62 = .ok (.getfield 74, 3) := by decide +kernel
theorem dX8_laysFormsBy_65 : decode cX8_laysFormsBy 65 = .ok (.iload_n 1, 1) := by decide +kernel
theorem dX8_laysFormsBy_66 : decode cX8_laysFormsBy 66 = .ok (.iaload, 1) := by decide +kernel
theorem dX8_laysFormsBy_67 : decode cX8_laysFormsBy 67 = .ok (.isub, 1) := by decide +kernel
theorem dX8_laysFormsBy_68 : decode cX8_laysFormsBy 68 = .ok (.iconst 2, 1) := by decide +kernel
theorem dX8_laysFormsBy_69 : decode cX8_laysFormsBy 69 = .ok (.idiv, 1) := by decide +kernel
theorem dX8_laysFormsBy_70 : decode cX8_laysFormsBy 70 = .ok (.i2l, 1) := by decide +kernel
theorem dX8_laysFormsBy_71 : decode cX8_laysFormsBy 71 = .ok (.lstore_n 2, 1) := by decide +kernel
theorem dX8_laysFormsBy_72 : decode cX8_laysFormsBy 72 = .ok (.aload_n 0, 1) := by decide +kernel
theorem dX8_laysFormsBy_73 : decode cX8_laysFormsBy 73 = .ok (.getfield 65, 3) := by decide +kernel
theorem dX8_laysFormsBy_76 : decode cX8_laysFormsBy 76 = .ok (.iconst 0, 1) := by decide +kernel
theorem dX8_laysFormsBy_77 : decode cX8_laysFormsBy 77 = .ok (.iload_n 1, 1) := by decide +kernel
theorem dX8_laysFormsBy_78 : decode cX8_laysFormsBy 78 = .ok (.iadd, 1) := by decide +kernel
theorem dX8_laysFormsBy_79 : decode cX8_laysFormsBy 79 = .ok (.invokestatic 358, 3) := by decide +kernel
theorem dX8_laysFormsBy_82 : decode cX8_laysFormsBy 82 = .ok (.aload_n 0, 1) := by decide +kernel
theorem dX8_laysFormsBy_83 : decode cX8_laysFormsBy 83 = .ok (.getfield 74, 3) := by decide +kernel
theorem dX8_laysFormsBy_86 : decode cX8_laysFormsBy 86 = .ok (.iload_n 1, 1) := by decide +kernel
theorem dX8_laysFormsBy_87 : decode cX8_laysFormsBy 87 = .ok (.iaload, 1) := by decide +kernel
theorem dX8_laysFormsBy_88 : decode cX8_laysFormsBy 88 = .ok (.i2l, 1) := by decide +kernel
theorem dX8_laysFormsBy_89 : decode cX8_laysFormsBy 89 = .ok (.lload_n 2, 1) := by decide +kernel
theorem dX8_laysFormsBy_90 : decode cX8_laysFormsBy 90 = .ok (.ladd, 1) := by decide +kernel
theorem dX8_laysFormsBy_91 : decode cX8_laysFormsBy 91 = .ok (.lastore, 1) := by decide +kernel
theorem dX8_laysFormsBy_92 : decode cX8_laysFormsBy 92 = .ok (.aload_n 0, 1) := by decide +kernel
theorem dX8_laysFormsBy_93 : decode cX8_laysFormsBy 93 = .ok (.iconst 0, 1) := by decide +kernel
theorem dX8_laysFormsBy_94 : decode cX8_laysFormsBy 94 = .ok (.iload_n 1, 1) := by decide +kernel
theorem dX8_laysFormsBy_95 : decode cX8_laysFormsBy 95 = .ok (.iadd, 1) := by decide +kernel
theorem dX8_laysFormsBy_96 : decode cX8_laysFormsBy 96 = .ok (.lload_n 2, 1) := by decide +kernel
theorem dX8_laysFormsBy_97 : decode cX8_laysFormsBy 97 = .ok (.iconst 0, 1) := by decide +kernel
theorem dX8_laysFormsBy_98 : decode cX8_laysFormsBy 98 = .ok (.invokevirtual 368, 3) := by decide +kernel
theorem dX8_laysFormsBy_101 : decode cX8_laysFormsBy 101 = .ok (.iinc 1 1, 3) := by decide +kernel
theorem dX8_laysFormsBy_104 : decode cX8_laysFormsBy 104 = .ok (.goto (-74), 3) := by decide +kernel
theorem dX8_laysFormsBy_107 : decode cX8_laysFormsBy 107 = .ok (.iconst 0, 1) := by decide +kernel
theorem dX8_laysFormsBy_108 : decode cX8_laysFormsBy 108 = .ok (.istore_n 1, 1) := by decide +kernel
theorem dX8_laysFormsBy_109 : decode cX8_laysFormsBy 109 = .ok (.iload_n 1, 1) := by decide +kernel
theorem dX8_laysFormsBy_110 : decode cX8_laysFormsBy 110 = .ok (.aload_n 0, 1) := by decide +kernel
theorem dX8_laysFormsBy_111 : decode cX8_laysFormsBy 111 = .ok (.getfield 259, 3) := by decide +kernel
theorem dX8_laysFormsBy_114 : decode cX8_laysFormsBy 114 = .ok (.if_icmp .ge 26, 3) := by decide +kernel
theorem dX8_laysFormsBy_117 : decode cX8_laysFormsBy 117 = .ok (.aload_n 0, 1) := by decide +kernel
theorem dX8_laysFormsBy_118 : decode cX8_laysFormsBy 118 = .ok (.getfield 19, 3) := by decide +kernel
theorem dX8_laysFormsBy_121 : decode cX8_laysFormsBy 121 = .ok (.iload_n 1, 1) := by decide +kernel
theorem dX8_laysFormsBy_122 : decode cX8_laysFormsBy 122 = .ok (.iaload, 1) := by decide +kernel
theorem dX8_laysFormsBy_123 : decode cX8_laysFormsBy 123 = .ok (.invokestatic 248, 3) := by decide +kernel
theorem dX8_laysFormsBy_126 : decode cX8_laysFormsBy 126 = .ok (.ifCond .ne 8, 3) := by decide +kernel
theorem dX8_laysFormsBy_129 : decode cX8_laysFormsBy 129 = .ok (.aload_n 0, 1) := by decide +kernel
theorem dX8_laysFormsBy_130 : decode cX8_laysFormsBy 130 = .ok (.iload_n 1, 1) := by decide +kernel
theorem dX8_laysFormsBy_131 : decode cX8_laysFormsBy 131 = .ok (.invokevirtual 422, 3) := by decide +kernel
theorem dX8_laysFormsBy_134 : decode cX8_laysFormsBy 134 = .ok (.iinc 1 1, 3) := by decide +kernel
theorem dX8_laysFormsBy_137 : decode cX8_laysFormsBy 137 = .ok (.goto (-28), 3) := by decide +kernel
theorem dX8_laysFormsBy_140 : decode cX8_laysFormsBy 140 = .ok (.return_, 1) := by decide +kernel
theorem dX8_laysForms_0 : decode cX8_laysForms 0 = .ok (.iconst 0, 1) := by decide +kernel
theorem dX8_laysForms_1 : decode cX8_laysForms 1 = .ok (.istore_n 1, 1) := by decide +kernel
theorem dX8_laysForms_2 : decode cX8_laysForms 2 = .ok (.iload_n 1, 1) := by decide +kernel
theorem dX8_laysForms_3 : decode cX8_laysForms 3 = .ok (.aload_n 0, 1) := by decide +kernel
theorem dX8_laysForms_4 : decode cX8_laysForms 4 = .ok (.getfield 259, 3) := by decide +kernel
theorem dX8_laysForms_7 : decode cX8_laysForms 7 = .ok (.if_icmp .ge 33, 3) := by decide +kernel
theorem dX8_laysForms_10 : decode cX8_laysForms 10 = .ok (.aload_n 0, 1) := by decide +kernel
theorem dX8_laysForms_11 : decode cX8_laysForms 11 = .ok (.getfield 74, 3) := by decide +kernel
theorem dX8_laysForms_14 : decode cX8_laysForms 14 = .ok (.iload_n 1, 1) := by decide +kernel
theorem dX8_laysForms_15 : decode cX8_laysForms 15 = .ok (.aload_n 0, 1) := by decide +kernel
theorem dX8_laysForms_16 : decode cX8_laysForms 16 = .ok (.getfield 25, 3) := by decide +kernel
theorem dX8_laysForms_19 : decode cX8_laysForms 19 = .ok (.iload_n 1, 1) := by decide +kernel
theorem dX8_laysForms_20 : decode cX8_laysForms 20 = .ok (.iaload, 1) := by decide +kernel
theorem dX8_laysForms_21 : decode cX8_laysForms 21 = .ok (.iastore, 1) := by decide +kernel
theorem dX8_laysForms_22 : decode cX8_laysForms 22 = .ok (.aload_n 0, 1) := by decide +kernel
theorem dX8_laysForms_23 : decode cX8_laysForms 23 = .ok (.getfield 77, 3) := by decide +kernel
theorem dX8_laysForms_26 : decode cX8_laysForms 26 = .ok (.iload_n 1, 1) := by decide +kernel
theorem dX8_laysForms_27 : decode cX8_laysForms 27 = .ok (.aload_n 0, 1) := by decide +kernel
theorem dX8_laysForms_28 : decode cX8_laysForms 28 = .ok (.getfield 28, 3) := by decide +kernel
theorem dX8_laysForms_31 : decode cX8_laysForms 31 = .ok (.iload_n 1, 1) := by decide +kernel
theorem dX8_laysForms_32 : decode cX8_laysForms 32 = .ok (.iaload, 1) := by decide +kernel
theorem dX8_laysForms_33 : decode cX8_laysForms 33 = .ok (.iastore, 1) := by decide +kernel
theorem dX8_laysForms_34 : decode cX8_laysForms 34 = .ok (.iinc 1 1, 3) := by decide +kernel
theorem dX8_laysForms_37 : decode cX8_laysForms 37 = .ok (.goto (-35), 3) := by decide +kernel
theorem dX8_laysForms_40 : decode cX8_laysForms 40 = .ok (.aload_n 0, 1) := by decide +kernel
theorem dX8_laysForms_41 : decode cX8_laysForms 41 = .ok (.invokevirtual 425, 3) := by decide +kernel
theorem dX8_laysForms_44 : decode cX8_laysForms 44 = .ok (.return_, 1) := by decide +kernel
theorem dX8_rowOf_0 : decode cX8_rowOf 0 = .ok (.iload_n 2, 1) := by decide +kernel
theorem dX8_rowOf_1 : decode cX8_rowOf 1 = .ok (.ifCond .eq 10, 3) := by decide +kernel
theorem dX8_rowOf_4 : decode cX8_rowOf 4 = .ok (.bipush 15, 2) := by decide +kernel
theorem dX8_rowOf_6 : decode cX8_rowOf 6 = .ok (.iload_n 1, 1) := by decide +kernel
theorem dX8_rowOf_7 : decode cX8_rowOf 7 = .ok (.iadd, 1) := by decide +kernel
theorem dX8_rowOf_8 : decode cX8_rowOf 8 = .ok (.goto 6, 3) := by decide +kernel
theorem dX8_rowOf_11 : decode cX8_rowOf 11 = .ok (.iconst 0, 1) := by decide +kernel
theorem dX8_rowOf_12 : decode cX8_rowOf 12 = .ok (.iload_n 1, 1) := by decide +kernel
theorem dX8_rowOf_13 : decode cX8_rowOf 13 = .ok (.iadd, 1) := by decide +kernel
theorem dX8_rowOf_14 : decode cX8_rowOf 14 = .ok (.ireturn, 1) := by decide +kernel
theorem dX8_form_0 : decode cX8_form 0 = .ok (.aload_n 0, 1) := by decide +kernel
theorem dX8_form_1 : decode cX8_form 1 = .ok (.aload_n 0, 1) := by decide +kernel
theorem dX8_form_2 : decode cX8_form 2 = .ok (.iload_n 1, 1) := by decide +kernel
theorem dX8_form_3 : decode cX8_form 3 = .ok (.invokevirtual 285, 3) := by decide +kernel
theorem dX8_form_6 : decode cX8_form 6 = .ok (.invokestatic 292, 3) := by decide +kernel
theorem dX8_form_9 : decode cX8_form 9 = .ok (.invokevirtual 269, 3) := by decide +kernel
theorem dX8_form_12 : decode cX8_form 12 = .ok (.ifCond .eq 7, 3) := by decide +kernel
theorem dX8_form_15 : decode cX8_form 15 = .ok (.ldc2_w 111, 3) := by decide +kernel
theorem dX8_form_18 : decode cX8_form 18 = .ok (.lreturn, 1) := by decide +kernel
theorem dX8_form_19 : decode cX8_form 19 = .ok (.aload_n 0, 1) := by decide +kernel
theorem dX8_form_20 : decode cX8_form 20 = .ok (.invokevirtual 299, 3) := by decide +kernel
theorem dX8_form_23 : decode cX8_form 23 = .ok (.iload_n 3, 1) := by decide +kernel
theorem dX8_form_24 : decode cX8_form 24 = .ok (.i2l, 1) := by decide +kernel
theorem dX8_form_25 : decode cX8_form 25 = .ok (.ldc2_w 400, 3) := by decide +kernel
theorem dX8_form_28 : decode cX8_form 28 = .ok (.aload_n 0, 1) := by decide +kernel
theorem dX8_form_29 : decode cX8_form 29 = .ok (.getfield 302, 3) := by decide +kernel
theorem dX8_form_32 : decode cX8_form 32 = .ok (.iconst 1, 1) := by decide +kernel
theorem dX8_form_33 : decode cX8_form 33 = .ok (.isub, 1) := by decide +kernel
theorem dX8_form_34 : decode cX8_form 34 = .ok (.i2l, 1) := by decide +kernel
theorem dX8_form_35 : decode cX8_form 35 = .ok (.invokestatic 140, 3) := by decide +kernel
theorem dX8_form_38 : decode cX8_form 38 = .ok (.ifCond .eq 24, 3) := by decide +kernel
theorem dX8_form_41 : decode cX8_form 41 = .ok (.aload_n 0, 1) := by decide +kernel
theorem dX8_form_42 : decode cX8_form 42 = .ok (.getfield 65, 3) := by decide +kernel
theorem dX8_form_45 : decode cX8_form 45 = .ok (.aload_n 0, 1) := by decide +kernel
theorem dX8_form_46 : decode cX8_form 46 = .ok (.iload_n 1, 1) := by decide +kernel
theorem dX8_form_47 : decode cX8_form 47 = .ok (.iload_n 2, 1) := by decide +kernel
theorem dX8_form_48 : decode cX8_form 48 = .ok (.invokevirtual 428, 3) := by decide +kernel
theorem dX8_form_51 : decode cX8_form 51 = .ok (.invokestatic 358, 3) := by decide +kernel
theorem dX8_form_54 : decode cX8_form 54 = .ok (.iconst 1, 1) := by decide +kernel
theorem dX8_form_55 : decode cX8_form 55 = .ok (.iadd, 1) := by decide +kernel
theorem dX8_form_56 : decode cX8_form 56 = .ok (.iload_n 3, 1) := by decide +kernel
theorem dX8_form_57 : decode cX8_form 57 = .ok (.iadd, 1) := by decide +kernel
theorem dX8_form_58 : decode cX8_form 58 = .ok (.laload, 1) := by decide +kernel
theorem dX8_form_59 : decode cX8_form 59 = .ok (.goto 8, 3) := by decide +kernel
theorem dX8_form_62 : decode cX8_form 62 = .ok (.aload_n 0, 1) := by decide +kernel
theorem dX8_form_63 : decode cX8_form 63 = .ok (.iconst 1, 1) := by decide +kernel
theorem dX8_form_64 : decode cX8_form 64 = .ok (.invokevirtual 432, 3) := by decide +kernel
theorem dX8_form_67 : decode cX8_form 67 = .ok (.lreturn, 1) := by decide +kernel
theorem dX8_reach_0 : decode cX8_reach 0 = .ok (.aload_n 0, 1) := by decide +kernel
theorem dX8_reach_1 : decode cX8_reach 1 = .ok (.aload_n 0, 1) := by decide +kernel
theorem dX8_reach_2 : decode cX8_reach 2 = .ok (.iload_n 1, 1) := by decide +kernel
theorem dX8_reach_3 : decode cX8_reach 3 = .ok (.invokevirtual 285, 3) := by decide +kernel
theorem dX8_reach_6 : decode cX8_reach 6 = .ok (.ifCond .eq 19, 3) := by decide +kernel
theorem dX8_reach_9 : decode cX8_reach 9 = .ok (.iload_n 3, 1) := by decide +kernel
theorem dX8_reach_10 : decode cX8_reach 10 = .ok (.i2l, 1) := by decide +kernel
theorem dX8_reach_11 : decode cX8_reach 11 = .ok (.lconst 0, 1) := by decide +kernel
theorem dX8_reach_12 : decode cX8_reach 12 = .ok (.ldc2_w 255, 3) := by decide +kernel
theorem dX8_reach_15 : decode cX8_reach 15 = .ok (.invokestatic 140, 3) := by decide +kernel
theorem dX8_reach_18 : decode cX8_reach 18 = .ok (.ifCond .eq 7, 3) := by decide +kernel
theorem dX8_reach_21 : decode cX8_reach 21 = .ok (.iconst 1, 1) := by decide +kernel
theorem dX8_reach_22 : decode cX8_reach 22 = .ok (.goto 4, 3) := by decide +kernel
theorem dX8_reach_25 : decode cX8_reach 25 = .ok (.iconst 0, 1) := by decide +kernel
theorem dX8_reach_26 : decode cX8_reach 26 = .ok (.invokestatic 292, 3) := by decide +kernel
theorem dX8_reach_29 : decode cX8_reach 29 = .ok (.invokevirtual 269, 3) := by decide +kernel
theorem dX8_reach_32 : decode cX8_reach 32 = .ok (.ifCond .eq 7, 3) := by decide +kernel
theorem dX8_reach_35 : decode cX8_reach 35 = .ok (.ldc2_w 111, 3) := by decide +kernel
theorem dX8_reach_38 : decode cX8_reach 38 = .ok (.lreturn, 1) := by decide +kernel
theorem dX8_reach_39 : decode cX8_reach 39 = .ok (.aload_n 0, 1) := by decide +kernel
theorem dX8_reach_40 : decode cX8_reach 40 = .ok (.invokevirtual 299, 3) := by decide +kernel
theorem dX8_reach_43 : decode cX8_reach 43 = .ok (.aload_n 0, 1) := by decide +kernel
theorem dX8_reach_44 : decode cX8_reach 44 = .ok (.iload_n 1, 1) := by decide +kernel
theorem dX8_reach_45 : decode cX8_reach 45 = .ok (.iload_n 2, 1) := by decide +kernel
theorem dX8_reach_46 : decode cX8_reach 46 = .ok (.invokevirtual 428, 3) := by decide +kernel
theorem dX8_reach_49 : decode cX8_reach 49 = .ok (.istore 4, 2) := by decide +kernel
theorem dX8_reach_51 : decode cX8_reach 51 = .ok (.iload_n 3, 1) := by decide +kernel
theorem dX8_reach_52 : decode cX8_reach 52 = .ok (.ifCond .ne 12, 3) := by decide +kernel
theorem dX8_reach_55 : decode cX8_reach 55 = .ok (.aload_n 0, 1) := by decide +kernel
theorem dX8_reach_56 : decode cX8_reach 56 = .ok (.iload 4, 2) := by decide +kernel
theorem dX8_reach_58 : decode cX8_reach 58 = .ok (.invokevirtual 379, 3) := by decide +kernel
theorem dX8_reach_61 : decode cX8_reach 61 = .ok (.goto 23, 3) := by decide +kernel
theorem dX8_reach_64 : decode cX8_reach 64 = .ok (.iload_n 3, 1) := by decide +kernel
theorem dX8_reach_65 : decode cX8_reach 65 = .ok (.iconst 1, 1) := by decide +kernel
theorem dX8_reach_66 : decode cX8_reach 66 = .ok (.if_icmp .ne 12, 3) := by decide +kernel
theorem dX8_reach_69 : decode cX8_reach 69 = .ok (.aload_n 0, 1) := by decide +kernel
theorem dX8_reach_70 : decode cX8_reach 70 = .ok (.iload 4, 2) := by decide +kernel
theorem dX8_reach_72 : decode cX8_reach 72 = .ok (.invokevirtual 382, 3) := by decide +kernel
theorem dX8_reach_75 : decode cX8_reach 75 = .ok (.goto 9, 3) := by decide +kernel
theorem dX8_reach_78 : decode cX8_reach 78 = .ok (.aload_n 0, 1) := by decide +kernel
theorem dX8_reach_79 : decode cX8_reach 79 = .ok (.iload 4, 2) := by decide +kernel
theorem dX8_reach_81 : decode cX8_reach 81 = .ok (.invokevirtual 361, 3) := by decide +kernel
theorem dX8_reach_84 : decode cX8_reach 84 = .ok (.lreturn, 1) := by decide +kernel
theorem dX8_boundOf_0 : decode cX8_boundOf 0 = .ok (.aload_n 0, 1) := by decide +kernel
theorem dX8_boundOf_1 : decode cX8_boundOf 1 = .ok (.bipush 15, 2) := by decide +kernel
theorem dX8_boundOf_3 : decode cX8_boundOf 3 = .ok (.iload_n 1, 1) := by decide +kernel
theorem dX8_boundOf_4 : decode cX8_boundOf 4 = .ok (.iadd, 1) := by decide +kernel
theorem dX8_boundOf_5 : decode cX8_boundOf 5 = .ok (.invokevirtual 379, 3) := by decide +kernel
theorem dX8_boundOf_8 : decode cX8_boundOf 8 = .ok (.invokestatic 244, 3) := by decide +kernel
theorem dX8_boundOf_11 : decode cX8_boundOf 11 = .ok (.lstore_n 2, 1) := by decide +kernel
theorem dX8_boundOf_12 : decode cX8_boundOf 12 = .ok (.aload_n 0, 1) := by decide +kernel
theorem dX8_boundOf_13 : decode cX8_boundOf 13 = .ok (.bipush 15, 2) := by decide +kernel
theorem dX8_boundOf_15 : decode cX8_boundOf 15 = .ok (.iload_n 1, 1) := by decide +kernel
theorem dX8_boundOf_16 : decode cX8_boundOf 16 = .ok (.iadd, 1) := by decide +kernel
theorem dX8_boundOf_17 : decode cX8_boundOf 17 = .ok (.invokevirtual 382, 3) := by decide +kernel
theorem dX8_boundOf_20 : decode cX8_boundOf 20 = .ok (.invokestatic 244, 3) := by decide +kernel
theorem dX8_boundOf_23 : decode cX8_boundOf 23 = .ok (.lstore 4, 2) := by decide +kernel
theorem dX8_boundOf_25 : decode cX8_boundOf 25 = .ok (.lload_n 2, 1) := by decide +kernel
theorem dX8_boundOf_26 : decode cX8_boundOf 26 = .ok (.lload 4, 2) := by decide +kernel
theorem dX8_boundOf_28 : decode cX8_boundOf 28 = .ok (.lcmp, 1) := by decide +kernel
theorem dX8_boundOf_29 : decode cX8_boundOf 29 = .ok (.ifCond .le 7, 3) := by decide +kernel
theorem dX8_boundOf_32 : decode cX8_boundOf 32 = .ok (.lload_n 2, 1) := by decide +kernel
theorem dX8_boundOf_33 : decode cX8_boundOf 33 = .ok (.goto 5, 3) := by decide +kernel
theorem dX8_boundOf_36 : decode cX8_boundOf 36 = .ok (.lload 4, 2) := by decide +kernel
theorem dX8_boundOf_38 : decode cX8_boundOf 38 = .ok (.lreturn, 1) := by decide +kernel
theorem dX8_bound_0 : decode cX8_bound 0 = .ok (.aload_n 0, 1) := by decide +kernel
theorem dX8_bound_1 : decode cX8_bound 1 = .ok (.aload_n 0, 1) := by decide +kernel
theorem dX8_bound_2 : decode cX8_bound 2 = .ok (.iload_n 1, 1) := by decide +kernel
theorem dX8_bound_3 : decode cX8_bound 3 = .ok (.invokevirtual 285, 3) := by decide +kernel
theorem dX8_bound_6 : decode cX8_bound 6 = .ok (.invokestatic 292, 3) := by decide +kernel
theorem dX8_bound_9 : decode cX8_bound 9 = .ok (.invokevirtual 269, 3) := by decide +kernel
theorem dX8_bound_12 : decode cX8_bound 12 = .ok (.ifCond .eq 7, 3) := by decide +kernel
theorem dX8_bound_15 : decode cX8_bound 15 = .ok (.ldc2_w 111, 3) := by decide +kernel
theorem dX8_bound_18 : decode cX8_bound 18 = .ok (.lreturn, 1) := by decide +kernel
theorem dX8_bound_19 : decode cX8_bound 19 = .ok (.aload_n 0, 1) := by decide +kernel
theorem dX8_bound_20 : decode cX8_bound 20 = .ok (.invokevirtual 299, 3) := by decide +kernel
theorem dX8_bound_23 : decode cX8_bound 23 = .ok (.aload_n 0, 1) := by decide +kernel
theorem dX8_bound_24 : decode cX8_bound 24 = .ok (.iload_n 1, 1) := by decide +kernel
theorem dX8_bound_25 : decode cX8_bound 25 = .ok (.invokevirtual 435, 3) := by decide +kernel
theorem dX8_bound_28 : decode cX8_bound 28 = .ok (.lreturn, 1) := by decide +kernel
theorem dX8_noise_0 : decode cX8_noise 0 = .ok (.aload_n 0, 1) := by decide +kernel
theorem dX8_noise_1 : decode cX8_noise 1 = .ok (.aload_n 0, 1) := by decide +kernel
theorem dX8_noise_2 : decode cX8_noise 2 = .ok (.getfield 281, 3) := by decide +kernel
theorem dX8_noise_5 : decode cX8_noise 5 = .ok (.ifCond .eq 17, 3) := by decide +kernel
theorem dX8_noise_8 : decode cX8_noise 8 = .ok (.iload_n 2, 1) := by decide +kernel
theorem dX8_noise_9 : decode cX8_noise 9 = .ok (.i2l, 1) := by decide +kernel
theorem dX8_noise_10 : decode cX8_noise 10 = .ok (.lconst 0, 1) := by decide +kernel
theorem dX8_noise_11 : decode cX8_noise 11 = .ok (.lconst 1, 1) := by decide +kernel
theorem dX8_noise_12 : decode cX8_noise 12 = .ok (.invokestatic 140, 3) := by decide +kernel
theorem dX8_noise_15 : decode cX8_noise 15 = .ok (.ifCond .eq 7, 3) := by decide +kernel
theorem dX8_noise_18 : decode cX8_noise 18 = .ok (.iconst 1, 1) := by decide +kernel
theorem dX8_noise_19 : decode cX8_noise 19 = .ok (.goto 4, 3) := by decide +kernel
theorem dX8_noise_22 : decode cX8_noise 22 = .ok (.iconst 0, 1) := by decide +kernel
theorem dX8_noise_23 : decode cX8_noise 23 = .ok (.invokestatic 292, 3) := by decide +kernel
theorem dX8_noise_26 : decode cX8_noise 26 = .ok (.invokevirtual 269, 3) := by decide +kernel
theorem dX8_noise_29 : decode cX8_noise 29 = .ok (.ifCond .eq 5, 3) := by decide +kernel
theorem dX8_noise_32 : decode cX8_noise 32 = .ok (.iconst (-1), 1) := by decide +kernel
theorem dX8_noise_33 : decode cX8_noise 33 = .ok (.ireturn, 1) := by decide +kernel
theorem dX8_noise_34 : decode cX8_noise 34 = .ok (.aload_n 0, 1) := by decide +kernel
theorem dX8_noise_35 : decode cX8_noise 35 = .ok (.invokevirtual 299, 3) := by decide +kernel
theorem dX8_noise_38 : decode cX8_noise 38 = .ok (.iload_n 1, 1) := by decide +kernel
theorem dX8_noise_39 : decode cX8_noise 39 = .ok (.i2l, 1) := by decide +kernel
theorem dX8_noise_40 : decode cX8_noise 40 = .ok (.lconst 0, 1) := by decide +kernel
theorem dX8_noise_41 : decode cX8_noise 41 = .ok (.aload_n 0, 1) := by decide +kernel
theorem dX8_noise_42 : decode cX8_noise 42 = .ok (.getfield 302, 3) := by decide +kernel
theorem dX8_noise_45 : decode cX8_noise 45 = .ok (.iconst 1, 1) := by decide +kernel
theorem dX8_noise_46 : decode cX8_noise 46 = .ok (.isub, 1) := by decide +kernel
theorem dX8_noise_47 : decode cX8_noise 47 = .ok (.i2l, 1) := by decide +kernel
theorem dX8_noise_48 : decode cX8_noise 48 = .ok (.invokestatic 140, 3) := by decide +kernel
theorem dX8_noise_51 : decode cX8_noise 51 = .ok (.ifCond .ne 9, 3) := by decide +kernel
theorem dX8_noise_54 : decode cX8_noise 54 = .ok (.aload_n 0, 1) := by decide +kernel
theorem dX8_noise_55 : decode cX8_noise 55 = .ok (.iconst 1, 1) := by decide +kernel
theorem dX8_noise_56 : decode cX8_noise 56 = .ok (.invokevirtual 278, 3) := by decide +kernel
theorem dX8_noise_59 : decode cX8_noise 59 = .ok (.ireturn, 1) := by decide +kernel
theorem dX8_noise_60 : decode cX8_noise 60 = .ok (.iload_n 2, 1) := by decide +kernel
theorem dX8_noise_61 : decode cX8_noise 61 = .ok (.ifCond .ne 12, 3) := by decide +kernel
theorem dX8_noise_64 : decode cX8_noise 64 = .ok (.aload_n 0, 1) := by decide +kernel
theorem dX8_noise_65 : decode cX8_noise 65 = .ok (.getfield 68, 3) := by decide +kernel
theorem dX8_noise_68 : decode cX8_noise 68 = .ok (.iload_n 1, 1) := by decide +kernel
theorem dX8_noise_69 : decode cX8_noise 69 = .ok (.iaload, 1) := by decide +kernel
theorem dX8_noise_70 : decode cX8_noise 70 = .ok (.goto 9, 3) := by decide +kernel
theorem dX8_noise_73 : decode cX8_noise 73 = .ok (.aload_n 0, 1) := by decide +kernel
theorem dX8_noise_74 : decode cX8_noise 74 = .ok (.getfield 71, 3) := by decide +kernel
theorem dX8_noise_77 : decode cX8_noise 77 = .ok (.iload_n 1, 1) := by decide +kernel
theorem dX8_noise_78 : decode cX8_noise 78 = .ok (.iaload, 1) := by decide +kernel
theorem dX8_noise_79 : decode cX8_noise 79 = .ok (.ireturn, 1) := by decide +kernel
theorem dX8_shared_0 : decode cX8_shared 0 = .ok (.aload_n 0, 1) := by decide +kernel
theorem dX8_shared_1 : decode cX8_shared 1 = .ok (.aload_n 0, 1) := by decide +kernel
theorem dX8_shared_2 : decode cX8_shared 2 = .ok (.iload_n 1, 1) := by decide +kernel
theorem dX8_shared_3 : decode cX8_shared 3 = .ok (.invokevirtual 285, 3) := by decide +kernel
theorem dX8_shared_6 : decode cX8_shared 6 = .ok (.ifCond .eq 15, 3) := by decide +kernel
theorem dX8_shared_9 : decode cX8_shared 9 = .ok (.aload_n 0, 1) := by decide +kernel
theorem dX8_shared_10 : decode cX8_shared 10 = .ok (.iload_n 2, 1) := by decide +kernel
theorem dX8_shared_11 : decode cX8_shared 11 = .ok (.invokevirtual 285, 3) := by decide +kernel
theorem dX8_shared_14 : decode cX8_shared 14 = .ok (.ifCond .eq 7, 3) := by decide +kernel
theorem dX8_shared_17 : decode cX8_shared 17 = .ok (.iconst 1, 1) := by decide +kernel
theorem dX8_shared_18 : decode cX8_shared 18 = .ok (.goto 4, 3) := by decide +kernel
theorem dX8_shared_21 : decode cX8_shared 21 = .ok (.iconst 0, 1) := by decide +kernel
theorem dX8_shared_22 : decode cX8_shared 22 = .ok (.invokestatic 292, 3) := by decide +kernel
theorem dX8_shared_25 : decode cX8_shared 25 = .ok (.invokevirtual 269, 3) := by decide +kernel
theorem dX8_shared_28 : decode cX8_shared 28 = .ok (.ifCond .eq 5, 3) := by decide +kernel
theorem dX8_shared_31 : decode cX8_shared 31 = .ok (.iconst (-1), 1) := by decide +kernel
theorem dX8_shared_32 : decode cX8_shared 32 = .ok (.ireturn, 1) := by decide +kernel
theorem dX8_shared_33 : decode cX8_shared 33 = .ok (.aload_n 0, 1) := by decide +kernel
theorem dX8_shared_34 : decode cX8_shared 34 = .ok (.invokevirtual 299, 3) := by decide +kernel
theorem dX8_shared_37 : decode cX8_shared 37 = .ok (.iconst 0, 1) := by decide +kernel
theorem dX8_shared_38 : decode cX8_shared 38 = .ok (.istore_n 3, 1) := by decide +kernel
theorem dX8_shared_39 : decode cX8_shared 39 = .ok (.iconst 1, 1) := by decide +kernel
theorem dX8_shared_40 : decode cX8_shared 40 = .ok (.istore 4, 2) := by decide +kernel
theorem dX8_shared_42 : decode cX8_shared 42 = .ok (.iload 4, 2) := by decide +kernel
theorem dX8_shared_44 : decode cX8_shared 44 = .ok (.aload_n 0, 1) := by decide +kernel
theorem dX8_shared_45 : decode cX8_shared 45 = .ok (.getfield 302, 3) := by decide +kernel
theorem dX8_shared_48 : decode cX8_shared 48 = .ok (.if_icmp .gt 57, 3) := by decide +kernel
theorem dX8_shared_51 : decode cX8_shared 51 = .ok (.iload_n 3, 1) := by decide +kernel
theorem dX8_shared_52 : decode cX8_shared 52 = .ok (.aload_n 0, 1) := by decide +kernel
theorem dX8_shared_53 : decode cX8_shared 53 = .ok (.getfield 65, 3) := by decide +kernel
theorem dX8_shared_56 : decode cX8_shared 56 = .ok (.bipush 15, 2) := by decide +kernel
theorem dX8_shared_58 : decode cX8_shared 58 = .ok (.iload_n 1, 1) := by decide +kernel
theorem dX8_shared_59 : decode cX8_shared 59 = .ok (.iadd, 1) := by decide +kernel
theorem dX8_shared_60 : decode cX8_shared 60 = .ok (.invokestatic 358, 3) := by decide +kernel
theorem dX8_shared_63 : decode cX8_shared 63 = .ok (.iload 4, 2) := by decide +kernel
theorem dX8_shared_65 : decode cX8_shared 65 = .ok (.iadd, 1) := by decide +kernel
theorem dX8_shared_66 : decode cX8_shared 66 = .ok (.laload, 1) := by decide +kernel
theorem dX8_shared_67 : decode cX8_shared 67 = .ok (.lconst 0, 1) := by decide +kernel
theorem dX8_shared_68 : decode cX8_shared 68 = .ok (.lcmp, 1) := by decide +kernel
theorem dX8_shared_69 : decode cX8_shared 69 = .ok (.ifCond .eq 27, 3) := by decide +kernel
theorem dX8_shared_72 : decode cX8_shared 72 = .ok (.aload_n 0, 1) := by decide +kernel
theorem dX8_shared_73 : decode cX8_shared 73 = .ok (.getfield 65, 3) := by decide +kernel
theorem dX8_shared_76 : decode cX8_shared 76 = .ok (.bipush 15, 2) := by decide +kernel
theorem dX8_shared_78 : decode cX8_shared 78 = .ok (.iload_n 2, 1) := by decide +kernel
theorem dX8_shared_79 : decode cX8_shared 79 = .ok (.iadd, 1) := by decide +kernel
theorem dX8_shared_80 : decode cX8_shared 80 = .ok (.invokestatic 358, 3) := by decide +kernel
theorem dX8_shared_83 : decode cX8_shared 83 = .ok (.iload 4, 2) := by decide +kernel
theorem dX8_shared_85 : decode cX8_shared 85 = .ok (.iadd, 1) := by decide +kernel
theorem dX8_shared_86 : decode cX8_shared 86 = .ok (.laload, 1) := by decide +kernel
theorem dX8_shared_87 : decode cX8_shared 87 = .ok (.lconst 0, 1) := by decide +kernel
theorem dX8_shared_88 : decode cX8_shared 88 = .ok (.lcmp, 1) := by decide +kernel
theorem dX8_shared_89 : decode cX8_shared 89 = .ok (.ifCond .eq 7, 3) := by decide +kernel
theorem dX8_shared_92 : decode cX8_shared 92 = .ok (.iconst 1, 1) := by decide +kernel
theorem dX8_shared_93 : decode cX8_shared 93 = .ok (.goto 4, 3) := by decide +kernel
theorem dX8_shared_96 : decode cX8_shared 96 = .ok (.iconst 0, 1) := by decide +kernel
theorem dX8_shared_97 : decode cX8_shared 97 = .ok (.iadd, 1) := by decide +kernel
theorem dX8_shared_98 : decode cX8_shared 98 = .ok (.istore_n 3, 1) := by decide +kernel
theorem dX8_shared_99 : decode cX8_shared 99 = .ok (.iinc 4 1, 3) := by decide +kernel
theorem dX8_shared_102 : decode cX8_shared 102 = .ok (.goto (-60), 3) := by decide +kernel
theorem dX8_shared_105 : decode cX8_shared 105 = .ok (.iload_n 3, 1) := by decide +kernel
theorem dX8_shared_106 : decode cX8_shared 106 = .ok (.ireturn, 1) := by decide +kernel
theorem dX8_partOf_0 : decode cX8_partOf 0 = .ok (.lconst 0, 1) := by decide +kernel
theorem dX8_partOf_1 : decode cX8_partOf 1 = .ok (.lstore_n 3, 1) := by decide +kernel
theorem dX8_partOf_2 : decode cX8_partOf 2 = .ok (.iconst 0, 1) := by decide +kernel
theorem dX8_partOf_3 : decode cX8_partOf 3 = .ok (.istore 5, 2) := by decide +kernel
theorem dX8_partOf_5 : decode cX8_partOf 5 = .ok (.iload 5, 2) := by decide +kernel
theorem dX8_partOf_7 : decode cX8_partOf 7 = .ok (.aload_n 0, 1) := by decide +kernel
theorem dX8_partOf_8 : decode cX8_partOf 8 = .ok (.getfield 302, 3) := by decide +kernel
theorem dX8_partOf_11 : decode cX8_partOf 11 = .ok (.if_icmp .ge 47, 3) := by decide +kernel
theorem dX8_partOf_14 : decode cX8_partOf 14 = .ok (.lload_n 3, 1) := by decide +kernel
theorem dX8_partOf_15 : decode cX8_partOf 15 = .ok (.aload_n 0, 1) := by decide +kernel
theorem dX8_partOf_16 : decode cX8_partOf 16 = .ok (.getfield 68, 3) := by decide +kernel
theorem dX8_partOf_19 : decode cX8_partOf 19 = .ok (.iload 5, 2) := by decide +kernel
theorem dX8_partOf_21 : decode cX8_partOf 21 = .ok (.iaload, 1) := by decide +kernel
theorem dX8_partOf_22 : decode cX8_partOf 22 = .ok (.iload_n 2, 1) := by decide +kernel
theorem dX8_partOf_23 : decode cX8_partOf 23 = .ok (.if_icmp .ne 26, 3) := by decide +kernel
theorem dX8_partOf_26 : decode cX8_partOf 26 = .ok (.aload_n 0, 1) := by decide +kernel
theorem dX8_partOf_27 : decode cX8_partOf 27 = .ok (.getfield 65, 3) := by decide +kernel
theorem dX8_partOf_30 : decode cX8_partOf 30 = .ok (.bipush 15, 2) := by decide +kernel
theorem dX8_partOf_32 : decode cX8_partOf 32 = .ok (.iload_n 1, 1) := by decide +kernel
theorem dX8_partOf_33 : decode cX8_partOf 33 = .ok (.iadd, 1) := by decide +kernel
theorem dX8_partOf_34 : decode cX8_partOf 34 = .ok (.invokestatic 358, 3) := by decide +kernel
theorem dX8_partOf_37 : decode cX8_partOf 37 = .ok (.iconst 1, 1) := by decide +kernel
theorem dX8_partOf_38 : decode cX8_partOf 38 = .ok (.iadd, 1) := by decide +kernel
theorem dX8_partOf_39 : decode cX8_partOf 39 = .ok (.iload 5, 2) := by decide +kernel
theorem dX8_partOf_41 : decode cX8_partOf 41 = .ok (.iadd, 1) := by decide +kernel
theorem dX8_partOf_42 : decode cX8_partOf 42 = .ok (.laload, 1) := by decide +kernel
theorem dX8_partOf_43 : decode cX8_partOf 43 = .ok (.invokestatic 244, 3) := by decide +kernel
theorem dX8_partOf_46 : decode cX8_partOf 46 = .ok (.goto 4, 3) := by decide +kernel
theorem dX8_partOf_49 : decode cX8_partOf 49 = .ok (.lconst 0, 1) := by decide +kernel
theorem dX8_partOf_50 : decode cX8_partOf 50 = .ok (.ladd, 1) := by decide +kernel
theorem dX8_partOf_51 : decode cX8_partOf 51 = .ok (.lstore_n 3, 1) := by decide +kernel
theorem dX8_partOf_52 : decode cX8_partOf 52 = .ok (.iinc 5 1, 3) := by decide +kernel
theorem dX8_partOf_55 : decode cX8_partOf 55 = .ok (.goto (-50), 3) := by decide +kernel
theorem dX8_partOf_58 : decode cX8_partOf 58 = .ok (.lload_n 3, 1) := by decide +kernel
theorem dX8_partOf_59 : decode cX8_partOf 59 = .ok (.lreturn, 1) := by decide +kernel
theorem dX8_part_0 : decode cX8_part 0 = .ok (.aload_n 0, 1) := by decide +kernel
theorem dX8_part_1 : decode cX8_part 1 = .ok (.aload_n 0, 1) := by decide +kernel
theorem dX8_part_2 : decode cX8_part 2 = .ok (.iload_n 1, 1) := by decide +kernel
theorem dX8_part_3 : decode cX8_part 3 = .ok (.invokevirtual 285, 3) := by decide +kernel
theorem dX8_part_6 : decode cX8_part 6 = .ok (.ifCond .eq 15, 3) := by decide +kernel
theorem dX8_part_9 : decode cX8_part 9 = .ok (.aload_n 0, 1) := by decide +kernel
theorem dX8_part_10 : decode cX8_part 10 = .ok (.iload_n 2, 1) := by decide +kernel
theorem dX8_part_11 : decode cX8_part 11 = .ok (.invokevirtual 316, 3) := by decide +kernel
theorem dX8_part_14 : decode cX8_part 14 = .ok (.ifCond .eq 7, 3) := by decide +kernel
theorem dX8_part_17 : decode cX8_part 17 = .ok (.iconst 1, 1) := by decide +kernel
theorem dX8_part_18 : decode cX8_part 18 = .ok (.goto 4, 3) := by decide +kernel
theorem dX8_part_21 : decode cX8_part 21 = .ok (.iconst 0, 1) := by decide +kernel
theorem dX8_part_22 : decode cX8_part 22 = .ok (.invokestatic 292, 3) := by decide +kernel
theorem dX8_part_25 : decode cX8_part 25 = .ok (.invokevirtual 269, 3) := by decide +kernel
theorem dX8_part_28 : decode cX8_part 28 = .ok (.ifCond .eq 7, 3) := by decide +kernel
theorem dX8_part_31 : decode cX8_part 31 = .ok (.ldc2_w 111, 3) := by decide +kernel
theorem dX8_part_34 : decode cX8_part 34 = .ok (.lreturn, 1) := by decide +kernel
theorem dX8_part_35 : decode cX8_part 35 = .ok (.aload_n 0, 1) := by decide +kernel
theorem dX8_part_36 : decode cX8_part 36 = .ok (.invokevirtual 299, 3) := by decide +kernel
theorem dX8_part_39 : decode cX8_part 39 = .ok (.aload_n 0, 1) := by decide +kernel
theorem dX8_part_40 : decode cX8_part 40 = .ok (.iload_n 1, 1) := by decide +kernel
theorem dX8_part_41 : decode cX8_part 41 = .ok (.iload_n 2, 1) := by decide +kernel
theorem dX8_part_42 : decode cX8_part 42 = .ok (.invokevirtual 438, 3) := by decide +kernel
theorem dX8_part_45 : decode cX8_part 45 = .ok (.lreturn, 1) := by decide +kernel
theorem dX8_blamed_0 : decode cX8_blamed 0 = .ok (.bipush (-2), 2) := by decide +kernel
theorem dX8_blamed_2 : decode cX8_blamed 2 = .ok (.istore_n 2, 1) := by decide +kernel
theorem dX8_blamed_3 : decode cX8_blamed 3 = .ok (.lconst 0, 1) := by decide +kernel
theorem dX8_blamed_4 : decode cX8_blamed 4 = .ok (.lstore_n 3, 1) := by decide +kernel
theorem dX8_blamed_5 : decode cX8_blamed 5 = .ok (.iconst 0, 1) := by decide +kernel
theorem dX8_blamed_6 : decode cX8_blamed 6 = .ok (.istore 5, 2) := by decide +kernel
theorem dX8_blamed_8 : decode cX8_blamed 8 = .ok (.iload 5, 2) := by decide +kernel
theorem dX8_blamed_10 : decode cX8_blamed 10 = .ok (.aload_n 0, 1) := by decide +kernel
theorem dX8_blamed_11 : decode cX8_blamed 11 = .ok (.getfield 259, 3) := by decide +kernel
theorem dX8_blamed_14 : decode cX8_blamed 14 = .ok (.if_icmp .ge 45, 3) := by decide +kernel
theorem dX8_blamed_17 : decode cX8_blamed 17 = .ok (.aload_n 0, 1) := by decide +kernel
theorem dX8_blamed_18 : decode cX8_blamed 18 = .ok (.getfield 19, 3) := by decide +kernel
theorem dX8_blamed_21 : decode cX8_blamed 21 = .ok (.iload 5, 2) := by decide +kernel
theorem dX8_blamed_23 : decode cX8_blamed 23 = .ok (.iaload, 1) := by decide +kernel
theorem dX8_blamed_24 : decode cX8_blamed 24 = .ok (.invokestatic 248, 3) := by decide +kernel
theorem dX8_blamed_27 : decode cX8_blamed 27 = .ok (.ifCond .ne 26, 3) := by decide +kernel
theorem dX8_blamed_30 : decode cX8_blamed 30 = .ok (.aload_n 0, 1) := by decide +kernel
theorem dX8_blamed_31 : decode cX8_blamed 31 = .ok (.iload_n 1, 1) := by decide +kernel
theorem dX8_blamed_32 : decode cX8_blamed 32 = .ok (.iload 5, 2) := by decide +kernel
theorem dX8_blamed_34 : decode cX8_blamed 34 = .ok (.invokevirtual 438, 3) := by decide +kernel
theorem dX8_blamed_37 : decode cX8_blamed 37 = .ok (.lload_n 3, 1) := by decide +kernel
theorem dX8_blamed_38 : decode cX8_blamed 38 = .ok (.lcmp, 1) := by decide +kernel
theorem dX8_blamed_39 : decode cX8_blamed 39 = .ok (.ifCond .le 14, 3) := by decide +kernel
theorem dX8_blamed_42 : decode cX8_blamed 42 = .ok (.aload_n 0, 1) := by decide +kernel
theorem dX8_blamed_43 : decode cX8_blamed 43 = .ok (.iload_n 1, 1) := by decide +kernel
theorem dX8_blamed_44 : decode cX8_blamed 44 = .ok (.iload 5, 2) := by decide +kernel
theorem dX8_blamed_46 : decode cX8_blamed 46 = .ok (.invokevirtual 438, 3) := by decide +kernel
theorem dX8_blamed_49 : decode cX8_blamed 49 = .ok (.lstore_n 3, 1) := by decide +kernel
theorem dX8_blamed_50 : decode cX8_blamed 50 = .ok (.iload 5, 2) := by decide +kernel
theorem dX8_blamed_52 : decode cX8_blamed 52 = .ok (.istore_n 2, 1) := by decide +kernel
theorem dX8_blamed_53 : decode cX8_blamed 53 = .ok (.iinc 5 1, 3) := by decide +kernel
theorem dX8_blamed_56 : decode cX8_blamed 56 = .ok (.goto (-48), 3) := by decide +kernel
theorem dX8_blamed_59 : decode cX8_blamed 59 = .ok (.iload_n 2, 1) := by decide +kernel
theorem dX8_blamed_60 : decode cX8_blamed 60 = .ok (.ireturn, 1) := by decide +kernel
theorem dX8_blame_0 : decode cX8_blame 0 = .ok (.aload_n 0, 1) := by decide +kernel
theorem dX8_blame_1 : decode cX8_blame 1 = .ok (.aload_n 0, 1) := by decide +kernel
theorem dX8_blame_2 : decode cX8_blame 2 = .ok (.iload_n 1, 1) := by decide +kernel
theorem dX8_blame_3 : decode cX8_blame 3 = .ok (.invokevirtual 285, 3) := by decide +kernel
theorem dX8_blame_6 : decode cX8_blame 6 = .ok (.invokestatic 292, 3) := by decide +kernel
theorem dX8_blame_9 : decode cX8_blame 9 = .ok (.invokevirtual 269, 3) := by decide +kernel
theorem dX8_blame_12 : decode cX8_blame 12 = .ok (.ifCond .eq 5, 3) := by decide +kernel
theorem dX8_blame_15 : decode cX8_blame 15 = .ok (.iconst (-1), 1) := by decide +kernel
theorem dX8_blame_16 : decode cX8_blame 16 = .ok (.ireturn, 1) := by decide +kernel
theorem dX8_blame_17 : decode cX8_blame 17 = .ok (.aload_n 0, 1) := by decide +kernel
theorem dX8_blame_18 : decode cX8_blame 18 = .ok (.invokevirtual 299, 3) := by decide +kernel
theorem dX8_blame_21 : decode cX8_blame 21 = .ok (.aload_n 0, 1) := by decide +kernel
theorem dX8_blame_22 : decode cX8_blame 22 = .ok (.iload_n 1, 1) := by decide +kernel
theorem dX8_blame_23 : decode cX8_blame 23 = .ok (.invokevirtual 442, 3) := by decide +kernel
theorem dX8_blame_26 : decode cX8_blame 26 = .ok (.ireturn, 1) := by decide +kernel
theorem dX8_may_0 : decode cX8_may 0 = .ok (.aload_n 0, 1) := by decide +kernel
theorem dX8_may_1 : decode cX8_may 1 = .ok (.aload_n 0, 1) := by decide +kernel
theorem dX8_may_2 : decode cX8_may 2 = .ok (.iload_n 1, 1) := by decide +kernel
theorem dX8_may_3 : decode cX8_may 3 = .ok (.invokevirtual 352, 3) := by decide +kernel
theorem dX8_may_6 : decode cX8_may 6 = .ok (.invokevirtual 269, 3) := by decide +kernel
theorem dX8_may_9 : decode cX8_may 9 = .ok (.ifCond .eq 5, 3) := by decide +kernel
theorem dX8_may_12 : decode cX8_may 12 = .ok (.iconst (-1), 1) := by decide +kernel
theorem dX8_may_13 : decode cX8_may 13 = .ok (.ireturn, 1) := by decide +kernel
theorem dX8_may_14 : decode cX8_may 14 = .ok (.aload_n 0, 1) := by decide +kernel
theorem dX8_may_15 : decode cX8_may 15 = .ok (.invokevirtual 299, 3) := by decide +kernel
theorem dX8_may_18 : decode cX8_may 18 = .ok (.aload_n 0, 1) := by decide +kernel
theorem dX8_may_19 : decode cX8_may 19 = .ok (.getfield 80, 3) := by decide +kernel
theorem dX8_may_22 : decode cX8_may 22 = .ok (.iload_n 1, 1) := by decide +kernel
theorem dX8_may_23 : decode cX8_may 23 = .ok (.iaload, 1) := by decide +kernel
theorem dX8_may_24 : decode cX8_may 24 = .ok (.ireturn, 1) := by decide +kernel
theorem dX8_makes_0 : decode cX8_makes 0 = .ok (.iconst 0, 1) := by decide +kernel
theorem dX8_makes_1 : decode cX8_makes 1 = .ok (.istore_n 2, 1) := by decide +kernel
theorem dX8_makes_2 : decode cX8_makes 2 = .ok (.iload_n 2, 1) := by decide +kernel
theorem dX8_makes_3 : decode cX8_makes 3 = .ok (.aload_n 0, 1) := by decide +kernel
theorem dX8_makes_4 : decode cX8_makes 4 = .ok (.getfield 259, 3) := by decide +kernel
theorem dX8_makes_7 : decode cX8_makes 7 = .ok (.if_icmp .ge 49, 3) := by decide +kernel
theorem dX8_makes_10 : decode cX8_makes 10 = .ok (.aload_n 0, 1) := by decide +kernel
theorem dX8_makes_11 : decode cX8_makes 11 = .ok (.getfield 86, 3) := by decide +kernel
theorem dX8_makes_14 : decode cX8_makes 14 = .ok (.bipush 15, 2) := by decide +kernel
theorem dX8_makes_16 : decode cX8_makes 16 = .ok (.aload_n 0, 1) := by decide +kernel
theorem dX8_makes_17 : decode cX8_makes 17 = .ok (.getfield 445, 3) := by decide +kernel
theorem dX8_makes_20 : decode cX8_makes 20 = .ok (.imul, 1) := by decide +kernel
theorem dX8_makes_21 : decode cX8_makes 21 = .ok (.iload_n 2, 1) := by decide +kernel
theorem dX8_makes_22 : decode cX8_makes 22 = .ok (.iadd, 1) := by decide +kernel
theorem dX8_makes_23 : decode cX8_makes 23 = .ok (.aload_n 0, 1) := by decide +kernel
theorem dX8_makes_24 : decode cX8_makes 24 = .ok (.getfield 74, 3) := by decide +kernel
theorem dX8_makes_27 : decode cX8_makes 27 = .ok (.iload_n 2, 1) := by decide +kernel
theorem dX8_makes_28 : decode cX8_makes 28 = .ok (.iaload, 1) := by decide +kernel
theorem dX8_makes_29 : decode cX8_makes 29 = .ok (.iastore, 1) := by decide +kernel
theorem dX8_makes_30 : decode cX8_makes 30 = .ok (.aload_n 0, 1) := by decide +kernel
theorem dX8_makes_31 : decode cX8_makes 31 = .ok (.getfield 89, 3) := by decide +kernel
theorem dX8_makes_34 : decode cX8_makes 34 = .ok (.bipush 15, 2) := by decide +kernel
theorem dX8_makes_36 : decode cX8_makes 36 = .ok (.aload_n 0, 1) := by decide +kernel
theorem dX8_makes_37 : decode cX8_makes 37 = .ok (.getfield 445, 3) := by decide +kernel
theorem dX8_makes_40 : decode cX8_makes 40 = .ok (.imul, 1) := by decide +kernel
theorem dX8_makes_41 : decode cX8_makes 41 = .ok (.iload_n 2, 1) := by decide +kernel
theorem dX8_makes_42 : decode cX8_makes 42 = .ok (.iadd, 1) := by decide +kernel
theorem dX8_makes_43 : decode cX8_makes 43 = .ok (.aload_n 0, 1) := by decide +kernel
theorem dX8_makes_44 : decode cX8_makes 44 = .ok (.getfield 77, 3) := by decide +kernel
theorem dX8_makes_47 : decode cX8_makes 47 = .ok (.iload_n 2, 1) := by decide +kernel
theorem dX8_makes_48 : decode cX8_makes 48 = .ok (.iaload, 1) := by decide +kernel
theorem dX8_makes_49 : decode cX8_makes 49 = .ok (.iastore, 1) := by decide +kernel
theorem dX8_makes_50 : decode cX8_makes 50 = .ok (.iinc 2 1, 3) := by decide +kernel
theorem dX8_makes_53 : decode cX8_makes 53 = .ok (.goto (-51), 3) := by decide +kernel
theorem dX8_makes_56 : decode cX8_makes 56 = .ok (.aload_n 0, 1) := by decide +kernel
theorem dX8_makes_57 : decode cX8_makes 57 = .ok (.invokevirtual 425, 3) := by decide +kernel
theorem dX8_makes_60 : decode cX8_makes 60 = .ok (.aload_n 0, 1) := by decide +kernel
theorem dX8_makes_61 : decode cX8_makes 61 = .ok (.getfield 92, 3) := by decide +kernel
theorem dX8_makes_64 : decode cX8_makes 64 = .ok (.aload_n 0, 1) := by decide +kernel
theorem dX8_makes_65 : decode cX8_makes 65 = .ok (.getfield 445, 3) := by decide +kernel
theorem dX8_makes_68 : decode cX8_makes 68 = .ok (.aload_n 0, 1) := by decide +kernel
theorem dX8_makes_69 : decode cX8_makes 69 = .ok (.iload_n 1, 1) := by decide +kernel
theorem dX8_makes_70 : decode cX8_makes 70 = .ok (.invokevirtual 435, 3) := by decide +kernel
theorem dX8_makes_73 : decode cX8_makes 73 = .ok (.lastore, 1) := by decide +kernel
theorem dX8_makes_74 : decode cX8_makes 74 = .ok (.aload_n 0, 1) := by decide +kernel
theorem dX8_makes_75 : decode cX8_makes 75 = .ok (.getfield 95, 3) := by decide +kernel
theorem dX8_makes_78 : decode cX8_makes 78 = .ok (.aload_n 0, 1) := by decide +kernel
theorem dX8_makes_79 : decode cX8_makes 79 = .ok (.getfield 445, 3) := by decide +kernel
theorem dX8_makes_82 : decode cX8_makes 82 = .ok (.iconst 0, 1) := by decide +kernel
theorem dX8_makes_83 : decode cX8_makes 83 = .ok (.bastore, 1) := by decide +kernel
theorem dX8_makes_84 : decode cX8_makes 84 = .ok (.aload_n 0, 1) := by decide +kernel
theorem dX8_makes_85 : decode cX8_makes 85 = .ok (.dup, 1) := by decide +kernel
theorem dX8_makes_86 : decode cX8_makes 86 = .ok (.getfield 445, 3) := by decide +kernel
theorem dX8_makes_89 : decode cX8_makes 89 = .ok (.iconst 1, 1) := by decide +kernel
theorem dX8_makes_90 : decode cX8_makes 90 = .ok (.iadd, 1) := by decide +kernel
theorem dX8_makes_91 : decode cX8_makes 91 = .ok (.putfield 445, 3) := by decide +kernel
theorem dX8_makes_94 : decode cX8_makes 94 = .ok (.return_, 1) := by decide +kernel
theorem dX8_begins_0 : decode cX8_begins 0 = .ok (.aload_n 0, 1) := by decide +kernel
theorem dX8_begins_1 : decode cX8_begins 1 = .ok (.iconst 0, 1) := by decide +kernel
theorem dX8_begins_2 : decode cX8_begins 2 = .ok (.putfield 445, 3) := by decide +kernel
theorem dX8_begins_5 : decode cX8_begins 5 = .ok (.iconst 0, 1) := by decide +kernel
theorem dX8_begins_6 : decode cX8_begins 6 = .ok (.istore_n 2, 1) := by decide +kernel
theorem dX8_begins_7 : decode cX8_begins 7 = .ok (.iload_n 2, 1) := by decide +kernel
theorem dX8_begins_8 : decode cX8_begins 8 = .ok (.aload_n 0, 1) := by decide +kernel
theorem dX8_begins_9 : decode cX8_begins 9 = .ok (.getfield 259, 3) := by decide +kernel
theorem dX8_begins_12 : decode cX8_begins 12 = .ok (.if_icmp .ge 33, 3) := by decide +kernel
theorem dX8_begins_15 : decode cX8_begins 15 = .ok (.aload_n 0, 1) := by decide +kernel
theorem dX8_begins_16 : decode cX8_begins 16 = .ok (.getfield 74, 3) := by decide +kernel
theorem dX8_begins_19 : decode cX8_begins 19 = .ok (.iload_n 2, 1) := by decide +kernel
theorem dX8_begins_20 : decode cX8_begins 20 = .ok (.aload_n 0, 1) := by decide +kernel
theorem dX8_begins_21 : decode cX8_begins 21 = .ok (.getfield 25, 3) := by decide +kernel
theorem dX8_begins_24 : decode cX8_begins 24 = .ok (.iload_n 2, 1) := by decide +kernel
theorem dX8_begins_25 : decode cX8_begins 25 = .ok (.iaload, 1) := by decide +kernel
theorem dX8_begins_26 : decode cX8_begins 26 = .ok (.iastore, 1) := by decide +kernel
theorem dX8_begins_27 : decode cX8_begins 27 = .ok (.aload_n 0, 1) := by decide +kernel
theorem dX8_begins_28 : decode cX8_begins 28 = .ok (.getfield 77, 3) := by decide +kernel
theorem dX8_begins_31 : decode cX8_begins 31 = .ok (.iload_n 2, 1) := by decide +kernel
theorem dX8_begins_32 : decode cX8_begins 32 = .ok (.aload_n 0, 1) := by decide +kernel
theorem dX8_begins_33 : decode cX8_begins 33 = .ok (.getfield 28, 3) := by decide +kernel
theorem dX8_begins_36 : decode cX8_begins 36 = .ok (.iload_n 2, 1) := by decide +kernel
theorem dX8_begins_37 : decode cX8_begins 37 = .ok (.iaload, 1) := by decide +kernel
theorem dX8_begins_38 : decode cX8_begins 38 = .ok (.iastore, 1) := by decide +kernel
theorem dX8_begins_39 : decode cX8_begins 39 = .ok (.iinc 2 1, 3) := by decide +kernel
theorem dX8_begins_42 : decode cX8_begins 42 = .ok (.goto (-35), 3) := by decide +kernel
theorem dX8_begins_45 : decode cX8_begins 45 = .ok (.aload_n 0, 1) := by decide +kernel
theorem dX8_begins_46 : decode cX8_begins 46 = .ok (.iload_n 1, 1) := by decide +kernel
theorem dX8_begins_47 : decode cX8_begins 47 = .ok (.invokevirtual 448, 3) := by decide +kernel
theorem dX8_begins_50 : decode cX8_begins 50 = .ok (.return_, 1) := by decide +kernel
theorem dX8_worstPiece_0 : decode cX8_worstPiece 0 = .ok (.iconst (-1), 1) := by decide +kernel
theorem dX8_worstPiece_1 : decode cX8_worstPiece 1 = .ok (.istore_n 1, 1) := by decide +kernel
theorem dX8_worstPiece_2 : decode cX8_worstPiece 2 = .ok (.iconst 0, 1) := by decide +kernel
theorem dX8_worstPiece_3 : decode cX8_worstPiece 3 = .ok (.istore_n 2, 1) := by decide +kernel
theorem dX8_worstPiece_4 : decode cX8_worstPiece 4 = .ok (.iload_n 2, 1) := by decide +kernel
theorem dX8_worstPiece_5 : decode cX8_worstPiece 5 = .ok (.aload_n 0, 1) := by decide +kernel
theorem dX8_worstPiece_6 : decode cX8_worstPiece 6 = .ok (.getfield 445, 3) := by decide +kernel
theorem dX8_worstPiece_9 : decode cX8_worstPiece 9 = .ok (.if_icmp .ge 41, 3) := by decide +kernel
theorem dX8_worstPiece_12 : decode cX8_worstPiece 12 = .ok (.aload_n 0, 1) := by decide +kernel
theorem dX8_worstPiece_13 : decode cX8_worstPiece 13 = .ok (.getfield 95, 3) := by decide +kernel
theorem dX8_worstPiece_16 : decode cX8_worstPiece 16 = .ok (.iload_n 2, 1) := by decide +kernel
theorem dX8_worstPiece_17 : decode cX8_worstPiece 17 = .ok (.baload, 1) := by decide +kernel
theorem dX8_worstPiece_18 : decode cX8_worstPiece 18 = .ok (.ifCond .ne 26, 3) := by decide +kernel
theorem dX8_worstPiece_21 : decode cX8_worstPiece 21 = .ok (.iload_n 1, 1) := by decide +kernel
theorem dX8_worstPiece_22 : decode cX8_worstPiece 22 = .ok (.iconst (-1), 1) := by decide +kernel
theorem dX8_worstPiece_23 : decode cX8_worstPiece 23 = .ok (.if_icmp .eq 19, 3) := by decide +kernel
theorem dX8_worstPiece_26 : decode cX8_worstPiece 26 = .ok (.aload_n 0, 1) := by decide +kernel
theorem dX8_worstPiece_27 : decode cX8_worstPiece 27 = .ok (.getfield 92, 3) := by decide +kernel
theorem dX8_worstPiece_30 : decode cX8_worstPiece 30 = .ok (.iload_n 2, 1) := by decide +kernel
theorem dX8_worstPiece_31 : decode cX8_worstPiece 31 = .ok (.laload, 1) := by decide +kernel
theorem dX8_worstPiece_32 : decode cX8_worstPiece 32 = .ok (.aload_n 0, 1) := by decide +kernel
theorem dX8_worstPiece_33 : decode cX8_worstPiece 33 = .ok (.getfield 92, 3) := by decide +kernel
theorem dX8_worstPiece_36 : decode cX8_worstPiece 36 = .ok (.iload_n 1, 1) := by decide +kernel
theorem dX8_worstPiece_37 : decode cX8_worstPiece 37 = .ok (.laload, 1) := by decide +kernel
theorem dX8_worstPiece_38 : decode cX8_worstPiece 38 = .ok (.lcmp, 1) := by decide +kernel
theorem dX8_worstPiece_39 : decode cX8_worstPiece 39 = .ok (.ifCond .le 5, 3) := by decide +kernel
theorem dX8_worstPiece_42 : decode cX8_worstPiece 42 = .ok (.iload_n 2, 1) := by decide +kernel
theorem dX8_worstPiece_43 : decode cX8_worstPiece 43 = .ok (.istore_n 1, 1) := by decide +kernel
theorem dX8_worstPiece_44 : decode cX8_worstPiece 44 = .ok (.iinc 2 1, 3) := by decide +kernel
theorem dX8_worstPiece_47 : decode cX8_worstPiece 47 = .ok (.goto (-43), 3) := by decide +kernel
theorem dX8_worstPiece_50 : decode cX8_worstPiece 50 = .ok (.iload_n 1, 1) := by decide +kernel
theorem dX8_worstPiece_51 : decode cX8_worstPiece 51 = .ok (.ireturn, 1) := by decide +kernel
theorem dX8_takesRanges_0 : decode cX8_takesRanges 0 = .ok (.iconst 0, 1) := by decide +kernel
theorem dX8_takesRanges_1 : decode cX8_takesRanges 1 = .ok (.istore_n 2, 1) := by decide +kernel
theorem dX8_takesRanges_2 : decode cX8_takesRanges 2 = .ok (.iload_n 2, 1) := by decide +kernel
theorem dX8_takesRanges_3 : decode cX8_takesRanges 3 = .ok (.aload_n 0, 1) := by decide +kernel
theorem dX8_takesRanges_4 : decode cX8_takesRanges 4 = .ok (.getfield 259, 3) := by decide +kernel
theorem dX8_takesRanges_7 : decode cX8_takesRanges 7 = .ok (.if_icmp .ge 43, 3) := by decide +kernel
theorem dX8_takesRanges_10 : decode cX8_takesRanges 10 = .ok (.aload_n 0, 1) := by decide +kernel
theorem dX8_takesRanges_11 : decode cX8_takesRanges 11 = .ok (.getfield 74, 3) := by decide +kernel
theorem dX8_takesRanges_14 : decode cX8_takesRanges 14 = .ok (.iload_n 2, 1) := by decide +kernel
theorem dX8_takesRanges_15 : decode cX8_takesRanges 15 = .ok (.aload_n 0, 1) := by decide +kernel
theorem dX8_takesRanges_16 : decode cX8_takesRanges 16 = .ok (.getfield 86, 3) := by decide +kernel
theorem dX8_takesRanges_19 : decode cX8_takesRanges 19 = .ok (.bipush 15, 2) := by decide +kernel
theorem dX8_takesRanges_21 : decode cX8_takesRanges 21 = .ok (.iload_n 1, 1) := by decide +kernel
theorem dX8_takesRanges_22 : decode cX8_takesRanges 22 = .ok (.imul, 1) := by decide +kernel
theorem dX8_takesRanges_23 : decode cX8_takesRanges 23 = .ok (.iload_n 2, 1) := by decide +kernel
theorem dX8_takesRanges_24 : decode cX8_takesRanges 24 = .ok (.iadd, 1) := by decide +kernel
theorem dX8_takesRanges_25 : decode cX8_takesRanges 25 = .ok (.iaload, 1) := by decide +kernel
theorem dX8_takesRanges_26 : decode cX8_takesRanges 26 = .ok (.iastore, 1) := by decide +kernel
theorem dX8_takesRanges_27 : decode cX8_takesRanges 27 = .ok (.aload_n 0, 1) := by decide +kernel
theorem dX8_takesRanges_28 : decode cX8_takesRanges 28 = .ok (.getfield 77, 3) := by decide +kernel
theorem dX8_takesRanges_31 : decode cX8_takesRanges 31 = .ok (.iload_n 2, 1) := by decide +kernel
theorem dX8_takesRanges_32 : decode cX8_takesRanges 32 = .ok (.aload_n 0, 1) := by decide +kernel
theorem dX8_takesRanges_33 : decode cX8_takesRanges 33 = .ok (.getfield 89, 3) := by decide +kernel
theorem dX8_takesRanges_36 : decode cX8_takesRanges 36 = .ok (.bipush 15, 2) := by decide +kernel
theorem dX8_takesRanges_38 : decode cX8_takesRanges 38 = .ok (.iload_n 1, 1) := by decide +kernel
theorem dX8_takesRanges_39 : decode cX8_takesRanges 39 = .ok (.imul, 1) := by decide +kernel
theorem dX8_takesRanges_40 : decode cX8_takesRanges 40 = .ok (.iload_n 2, 1) := by decide +kernel
theorem dX8_takesRanges_41 : decode cX8_takesRanges 41 = .ok (.iadd, 1) := by decide +kernel
theorem dX8_takesRanges_42 : decode cX8_takesRanges 42 = .ok (.iaload, 1) := by decide +kernel
theorem dX8_takesRanges_43 : decode cX8_takesRanges 43 = .ok (.iastore, 1) := by decide +kernel
theorem dX8_takesRanges_44 : decode cX8_takesRanges 44 = .ok (.iinc 2 1, 3) := by decide +kernel
theorem dX8_takesRanges_47 : decode cX8_takesRanges 47 = .ok (.goto (-45), 3) := by decide +kernel
theorem dX8_takesRanges_50 : decode cX8_takesRanges 50 = .ok (.return_, 1) := by decide +kernel
theorem dX8_widest_0 : decode cX8_widest 0 = .ok (.iconst (-1), 1) := by decide +kernel
theorem dX8_widest_1 : decode cX8_widest 1 = .ok (.istore_n 1, 1) := by decide +kernel
theorem dX8_widest_2 : decode cX8_widest 2 = .ok (.iconst 0, 1) := by decide +kernel
theorem dX8_widest_3 : decode cX8_widest 3 = .ok (.istore_n 2, 1) := by decide +kernel
theorem dX8_widest_4 : decode cX8_widest 4 = .ok (.iload_n 2, 1) := by decide +kernel
theorem dX8_widest_5 : decode cX8_widest 5 = .ok (.aload_n 0, 1) := by decide +kernel
theorem dX8_widest_6 : decode cX8_widest 6 = .ok (.getfield 259, 3) := by decide +kernel
theorem dX8_widest_9 : decode cX8_widest 9 = .ok (.if_icmp .ge 69, 3) := by decide +kernel
theorem dX8_widest_12 : decode cX8_widest 12 = .ok (.aload_n 0, 1) := by decide +kernel
theorem dX8_widest_13 : decode cX8_widest 13 = .ok (.getfield 77, 3) := by decide +kernel
theorem dX8_widest_16 : decode cX8_widest 16 = .ok (.iload_n 2, 1) := by decide +kernel
theorem dX8_widest_17 : decode cX8_widest 17 = .ok (.iaload, 1) := by decide +kernel
theorem dX8_widest_18 : decode cX8_widest 18 = .ok (.aload_n 0, 1) := by decide +kernel
theorem dX8_widest_19 : decode cX8_widest 19 = .ok (.getfield 74, 3) := by decide +kernel
theorem dX8_widest_22 : decode cX8_widest 22 = .ok (.iload_n 2, 1) := by decide +kernel
theorem dX8_widest_23 : decode cX8_widest 23 = .ok (.iaload, 1) := by decide +kernel
theorem dX8_widest_24 : decode cX8_widest 24 = .ok (.isub, 1) := by decide +kernel
theorem dX8_widest_25 : decode cX8_widest 25 = .ok (.istore_n 3, 1) := by decide +kernel
theorem dX8_widest_26 : decode cX8_widest 26 = .ok (.aload_n 0, 1) := by decide +kernel
theorem dX8_widest_27 : decode cX8_widest 27 = .ok (.getfield 19, 3) := by decide +kernel
theorem dX8_widest_30 : decode cX8_widest 30 = .ok (.iload_n 2, 1) := by decide +kernel
theorem dX8_widest_31 : decode cX8_widest 31 = .ok (.iaload, 1) := by decide +kernel
theorem dX8_widest_32 : decode cX8_widest 32 = .ok (.invokestatic 248, 3) := by decide +kernel
theorem dX8_widest_35 : decode cX8_widest 35 = .ok (.ifCond .eq 37, 3) := by decide +kernel
theorem dX8_widest_38 : decode cX8_widest 38 = .ok (.iload_n 3, 1) := by decide +kernel
theorem dX8_widest_39 : decode cX8_widest 39 = .ok (.ifCond .le 33, 3) := by decide +kernel
theorem dX8_widest_42 : decode cX8_widest 42 = .ok (.iload_n 3, 1) := by decide +kernel
theorem dX8_widest_43 : decode cX8_widest 43 = .ok (.iconst 4, 1) := by decide +kernel
theorem dX8_widest_44 : decode cX8_widest 44 = .ok (.irem, 1) := by decide +kernel
theorem dX8_widest_45 : decode cX8_widest 45 = .ok (.ifCond .ne 27, 3) := by decide +kernel
theorem dX8_widest_48 : decode cX8_widest 48 = .ok (.iload_n 1, 1) := by decide +kernel
theorem dX8_widest_49 : decode cX8_widest 49 = .ok (.iconst (-1), 1) := by decide +kernel
theorem dX8_widest_50 : decode cX8_widest 50 = .ok (.if_icmp .eq 20, 3) := by decide +kernel
theorem dX8_widest_53 : decode cX8_widest 53 = .ok (.iload_n 3, 1) := by decide +kernel
theorem dX8_widest_54 : decode cX8_widest 54 = .ok (.aload_n 0, 1) := by decide +kernel
theorem dX8_widest_55 : decode cX8_widest 55 = .ok (.getfield 77, 3) := by decide +kernel
theorem dX8_widest_58 : decode cX8_widest 58 = .ok (.iload_n 1, 1) := by decide +kernel
theorem dX8_widest_59 : decode cX8_widest 59 = .ok (.iaload, 1) := by decide +kernel
theorem dX8_widest_60 : decode cX8_widest 60 = .ok (.aload_n 0, 1) := by decide +kernel
theorem dX8_widest_61 : decode cX8_widest 61 = .ok (.getfield 74, 3) := by decide +kernel
theorem dX8_widest_64 : decode cX8_widest 64 = .ok (.iload_n 1, 1) := by decide +kernel
theorem dX8_widest_65 : decode cX8_widest 65 = .ok (.iaload, 1) := by decide +kernel
theorem dX8_widest_66 : decode cX8_widest 66 = .ok (.isub, 1) := by decide +kernel
theorem dX8_widest_67 : decode cX8_widest 67 = .ok (.if_icmp .le 5, 3) := by decide +kernel
theorem dX8_widest_70 : decode cX8_widest 70 = .ok (.iload_n 2, 1) := by decide +kernel
theorem dX8_widest_71 : decode cX8_widest 71 = .ok (.istore_n 1, 1) := by decide +kernel
theorem dX8_widest_72 : decode cX8_widest 72 = .ok (.iinc 2 1, 3) := by decide +kernel
theorem dX8_widest_75 : decode cX8_widest 75 = .ok (.goto (-71), 3) := by decide +kernel
theorem dX8_widest_78 : decode cX8_widest 78 = .ok (.iload_n 1, 1) := by decide +kernel
theorem dX8_widest_79 : decode cX8_widest 79 = .ok (.ireturn, 1) := by decide +kernel
theorem dX8_splitsOnce_0 : decode cX8_splitsOnce 0 = .ok (.aload_n 0, 1) := by decide +kernel
theorem dX8_splitsOnce_1 : decode cX8_splitsOnce 1 = .ok (.invokevirtual 451, 3) := by decide +kernel
theorem dX8_splitsOnce_4 : decode cX8_splitsOnce 4 = .ok (.istore_n 2, 1) := by decide +kernel
theorem dX8_splitsOnce_5 : decode cX8_splitsOnce 5 = .ok (.aload_n 0, 1) := by decide +kernel
theorem dX8_splitsOnce_6 : decode cX8_splitsOnce 6 = .ok (.iload_n 2, 1) := by decide +kernel
theorem dX8_splitsOnce_7 : decode cX8_splitsOnce 7 = .ok (.invokevirtual 454, 3) := by decide +kernel
theorem dX8_splitsOnce_10 : decode cX8_splitsOnce 10 = .ok (.aload_n 0, 1) := by decide +kernel
theorem dX8_splitsOnce_11 : decode cX8_splitsOnce 11 = .ok (.invokevirtual 457, 3) := by decide +kernel
theorem dX8_splitsOnce_14 : decode cX8_splitsOnce 14 = .ok (.istore_n 3, 1) := by decide +kernel
theorem dX8_splitsOnce_15 : decode cX8_splitsOnce 15 = .ok (.iload_n 3, 1) := by decide +kernel
theorem dX8_splitsOnce_16 : decode cX8_splitsOnce 16 = .ok (.iconst (-1), 1) := by decide +kernel
theorem dX8_splitsOnce_17 : decode cX8_splitsOnce 17 = .ok (.if_icmp .ne 5, 3) := by decide +kernel
theorem dX8_splitsOnce_20 : decode cX8_splitsOnce 20 = .ok (.iconst 0, 1) := by decide +kernel
theorem dX8_splitsOnce_21 : decode cX8_splitsOnce 21 = .ok (.ireturn, 1) := by decide +kernel
theorem dX8_splitsOnce_22 : decode cX8_splitsOnce 22 = .ok (.aload_n 0, 1) := by decide +kernel
theorem dX8_splitsOnce_23 : decode cX8_splitsOnce 23 = .ok (.getfield 74, 3) := by decide +kernel
theorem dX8_splitsOnce_26 : decode cX8_splitsOnce 26 = .ok (.iload_n 3, 1) := by decide +kernel
theorem dX8_splitsOnce_27 : decode cX8_splitsOnce 27 = .ok (.iaload, 1) := by decide +kernel
theorem dX8_splitsOnce_28 : decode cX8_splitsOnce 28 = .ok (.aload_n 0, 1) := by decide +kernel
theorem dX8_splitsOnce_29 : decode cX8_splitsOnce 29 = .ok (.getfield 77, 3) := by decide +kernel
theorem dX8_splitsOnce_32 : decode cX8_splitsOnce 32 = .ok (.iload_n 3, 1) := by decide +kernel
theorem dX8_splitsOnce_33 : decode cX8_splitsOnce 33 = .ok (.iaload, 1) := by decide +kernel
theorem dX8_splitsOnce_34 : decode cX8_splitsOnce 34 = .ok (.iadd, 1) := by decide +kernel
theorem dX8_splitsOnce_35 : decode cX8_splitsOnce 35 = .ok (.iconst 2, 1) := by decide +kernel
theorem dX8_splitsOnce_36 : decode cX8_splitsOnce 36 = .ok (.idiv, 1) := by decide +kernel
theorem dX8_splitsOnce_37 : decode cX8_splitsOnce 37 = .ok (.istore 4, 2) := by decide +kernel
theorem dX8_splitsOnce_39 : decode cX8_splitsOnce 39 = .ok (.aload_n 0, 1) := by decide +kernel
theorem dX8_splitsOnce_40 : decode cX8_splitsOnce 40 = .ok (.getfield 95, 3) := by decide +kernel
theorem dX8_splitsOnce_43 : decode cX8_splitsOnce 43 = .ok (.iload_n 2, 1) := by decide +kernel
theorem dX8_splitsOnce_44 : decode cX8_splitsOnce 44 = .ok (.iconst 1, 1) := by decide +kernel
theorem dX8_splitsOnce_45 : decode cX8_splitsOnce 45 = .ok (.bastore, 1) := by decide +kernel
theorem dX8_splitsOnce_46 : decode cX8_splitsOnce 46 = .ok (.aload_n 0, 1) := by decide +kernel
theorem dX8_splitsOnce_47 : decode cX8_splitsOnce 47 = .ok (.getfield 77, 3) := by decide +kernel
theorem dX8_splitsOnce_50 : decode cX8_splitsOnce 50 = .ok (.iload_n 3, 1) := by decide +kernel
theorem dX8_splitsOnce_51 : decode cX8_splitsOnce 51 = .ok (.iload 4, 2) := by decide +kernel
theorem dX8_splitsOnce_53 : decode cX8_splitsOnce 53 = .ok (.iastore, 1) := by decide +kernel
theorem dX8_splitsOnce_54 : decode cX8_splitsOnce 54 = .ok (.aload_n 0, 1) := by decide +kernel
theorem dX8_splitsOnce_55 : decode cX8_splitsOnce 55 = .ok (.iload_n 1, 1) := by decide +kernel
theorem dX8_splitsOnce_56 : decode cX8_splitsOnce 56 = .ok (.invokevirtual 448, 3) := by decide +kernel
theorem dX8_splitsOnce_59 : decode cX8_splitsOnce 59 = .ok (.aload_n 0, 1) := by decide +kernel
theorem dX8_splitsOnce_60 : decode cX8_splitsOnce 60 = .ok (.iload_n 2, 1) := by decide +kernel
theorem dX8_splitsOnce_61 : decode cX8_splitsOnce 61 = .ok (.invokevirtual 454, 3) := by decide +kernel
theorem dX8_splitsOnce_64 : decode cX8_splitsOnce 64 = .ok (.aload_n 0, 1) := by decide +kernel
theorem dX8_splitsOnce_65 : decode cX8_splitsOnce 65 = .ok (.getfield 74, 3) := by decide +kernel
theorem dX8_splitsOnce_68 : decode cX8_splitsOnce 68 = .ok (.iload_n 3, 1) := by decide +kernel
theorem dX8_splitsOnce_69 : decode cX8_splitsOnce 69 = .ok (.iload 4, 2) := by decide +kernel
theorem dX8_splitsOnce_71 : decode cX8_splitsOnce 71 = .ok (.iastore, 1) := by decide +kernel
theorem dX8_splitsOnce_72 : decode cX8_splitsOnce 72 = .ok (.aload_n 0, 1) := by decide +kernel
theorem dX8_splitsOnce_73 : decode cX8_splitsOnce 73 = .ok (.iload_n 1, 1) := by decide +kernel
theorem dX8_splitsOnce_74 : decode cX8_splitsOnce 74 = .ok (.invokevirtual 448, 3) := by decide +kernel
theorem dX8_splitsOnce_77 : decode cX8_splitsOnce 77 = .ok (.iconst 1, 1) := by decide +kernel
theorem dX8_splitsOnce_78 : decode cX8_splitsOnce 78 = .ok (.ireturn, 1) := by decide +kernel
theorem dX8_split_0 : decode cX8_split 0 = .ok (.aload_n 0, 1) := by decide +kernel
theorem dX8_split_1 : decode cX8_split 1 = .ok (.aload_n 0, 1) := by decide +kernel
theorem dX8_split_2 : decode cX8_split 2 = .ok (.iload_n 1, 1) := by decide +kernel
theorem dX8_split_3 : decode cX8_split 3 = .ok (.invokevirtual 285, 3) := by decide +kernel
theorem dX8_split_6 : decode cX8_split 6 = .ok (.ifCond .eq 17, 3) := by decide +kernel
theorem dX8_split_9 : decode cX8_split 9 = .ok (.iload_n 3, 1) := by decide +kernel
theorem dX8_split_10 : decode cX8_split 10 = .ok (.i2l, 1) := by decide +kernel
theorem dX8_split_11 : decode cX8_split 11 = .ok (.lconst 0, 1) := by decide +kernel
theorem dX8_split_12 : decode cX8_split 12 = .ok (.lconst 1, 1) := by decide +kernel
theorem dX8_split_13 : decode cX8_split 13 = .ok (.invokestatic 140, 3) := by decide +kernel
theorem dX8_split_16 : decode cX8_split 16 = .ok (.ifCond .eq 7, 3) := by decide +kernel
theorem dX8_split_19 : decode cX8_split 19 = .ok (.iconst 1, 1) := by decide +kernel
theorem dX8_split_20 : decode cX8_split 20 = .ok (.goto 4, 3) := by decide +kernel
theorem dX8_split_23 : decode cX8_split 23 = .ok (.iconst 0, 1) := by decide +kernel
theorem dX8_split_24 : decode cX8_split 24 = .ok (.iload_n 2, 1) := by decide +kernel
theorem dX8_split_25 : decode cX8_split 25 = .ok (.i2l, 1) := by decide +kernel
theorem dX8_split_26 : decode cX8_split 26 = .ok (.lconst 0, 1) := by decide +kernel
theorem dX8_split_27 : decode cX8_split 27 = .ok (.ldc2_w 460, 3) := by decide +kernel
theorem dX8_split_30 : decode cX8_split 30 = .ok (.invokestatic 140, 3) := by decide +kernel
theorem dX8_split_33 : decode cX8_split 33 = .ok (.invokestatic 346, 3) := by decide +kernel
theorem dX8_split_36 : decode cX8_split 36 = .ok (.invokevirtual 269, 3) := by decide +kernel
theorem dX8_split_39 : decode cX8_split 39 = .ok (.ifCond .eq 7, 3) := by decide +kernel
theorem dX8_split_42 : decode cX8_split 42 = .ok (.ldc2_w 111, 3) := by decide +kernel
theorem dX8_split_45 : decode cX8_split 45 = .ok (.lreturn, 1) := by decide +kernel
theorem dX8_split_46 : decode cX8_split 46 = .ok (.aload_n 0, 1) := by decide +kernel
theorem dX8_split_47 : decode cX8_split 47 = .ok (.iload_n 1, 1) := by decide +kernel
theorem dX8_split_48 : decode cX8_split 48 = .ok (.invokevirtual 462, 3) := by decide +kernel
theorem dX8_split_51 : decode cX8_split 51 = .ok (.iconst 0, 1) := by decide +kernel
theorem dX8_split_52 : decode cX8_split 52 = .ok (.istore 4, 2) := by decide +kernel
theorem dX8_split_54 : decode cX8_split 54 = .ok (.iload 4, 2) := by decide +kernel
theorem dX8_split_56 : decode cX8_split 56 = .ok (.iload_n 2, 1) := by decide +kernel
theorem dX8_split_57 : decode cX8_split 57 = .ok (.if_icmp .ge 17, 3) := by decide +kernel
theorem dX8_split_60 : decode cX8_split 60 = .ok (.aload_n 0, 1) := by decide +kernel
theorem dX8_split_61 : decode cX8_split 61 = .ok (.iload_n 1, 1) := by decide +kernel
theorem dX8_split_62 : decode cX8_split 62 = .ok (.invokevirtual 465, 3) := by decide +kernel
theorem dX8_split_65 : decode cX8_split 65 = .ok (.ifCond .eq 9, 3) := by decide +kernel
theorem dX8_split_68 : decode cX8_split 68 = .ok (.iinc 4 1, 3) := by decide +kernel
theorem dX8_split_71 : decode cX8_split 71 = .ok (.goto (-17), 3) := by decide +kernel
theorem dX8_split_74 : decode cX8_split 74 = .ok (.iload_n 3, 1) := by decide +kernel
theorem dX8_split_75 : decode cX8_split 75 = .ok (.ifCond .ne 15, 3) := by decide +kernel
theorem dX8_split_78 : decode cX8_split 78 = .ok (.aload_n 0, 1) := by decide +kernel
theorem dX8_split_79 : decode cX8_split 79 = .ok (.getfield 92, 3) := by decide +kernel
theorem dX8_split_82 : decode cX8_split 82 = .ok (.aload_n 0, 1) := by decide +kernel
theorem dX8_split_83 : decode cX8_split 83 = .ok (.invokevirtual 451, 3) := by decide +kernel
theorem dX8_split_86 : decode cX8_split 86 = .ok (.laload, 1) := by decide +kernel
theorem dX8_split_87 : decode cX8_split 87 = .ok (.goto 8, 3) := by decide +kernel
theorem dX8_split_90 : decode cX8_split 90 = .ok (.iload 4, 2) := by decide +kernel
theorem dX8_split_92 : decode cX8_split 92 = .ok (.iconst 1, 1) := by decide +kernel
theorem dX8_split_93 : decode cX8_split 93 = .ok (.iadd, 1) := by decide +kernel
theorem dX8_split_94 : decode cX8_split 94 = .ok (.i2l, 1) := by decide +kernel
theorem dX8_split_95 : decode cX8_split 95 = .ok (.lreturn, 1) := by decide +kernel
theorem dX8_splits_0 : decode cX8_splits 0 = .ok (.aload_n 0, 1) := by decide +kernel
theorem dX8_splits_1 : decode cX8_splits 1 = .ok (.aload_n 0, 1) := by decide +kernel
theorem dX8_splits_2 : decode cX8_splits 2 = .ok (.iload_n 1, 1) := by decide +kernel
theorem dX8_splits_3 : decode cX8_splits 3 = .ok (.invokevirtual 285, 3) := by decide +kernel
theorem dX8_splits_6 : decode cX8_splits 6 = .ok (.iload_n 2, 1) := by decide +kernel
theorem dX8_splits_7 : decode cX8_splits 7 = .ok (.i2l, 1) := by decide +kernel
theorem dX8_splits_8 : decode cX8_splits 8 = .ok (.lconst 0, 1) := by decide +kernel
theorem dX8_splits_9 : decode cX8_splits 9 = .ok (.ldc2_w 257, 3) := by decide +kernel
theorem dX8_splits_12 : decode cX8_splits 12 = .ok (.invokestatic 140, 3) := by decide +kernel
theorem dX8_splits_15 : decode cX8_splits 15 = .ok (.invokestatic 346, 3) := by decide +kernel
theorem dX8_splits_18 : decode cX8_splits 18 = .ok (.invokevirtual 269, 3) := by decide +kernel
theorem dX8_splits_21 : decode cX8_splits 21 = .ok (.ifCond .eq 5, 3) := by decide +kernel
theorem dX8_splits_24 : decode cX8_splits 24 = .ok (.iconst (-1), 1) := by decide +kernel
theorem dX8_splits_25 : decode cX8_splits 25 = .ok (.ireturn, 1) := by decide +kernel
theorem dX8_splits_26 : decode cX8_splits 26 = .ok (.aload_n 0, 1) := by decide +kernel
theorem dX8_splits_27 : decode cX8_splits 27 = .ok (.iload_n 1, 1) := by decide +kernel
theorem dX8_splits_28 : decode cX8_splits 28 = .ok (.invokevirtual 462, 3) := by decide +kernel
theorem dX8_splits_31 : decode cX8_splits 31 = .ok (.iconst 0, 1) := by decide +kernel
theorem dX8_splits_32 : decode cX8_splits 32 = .ok (.istore_n 3, 1) := by decide +kernel
theorem dX8_splits_33 : decode cX8_splits 33 = .ok (.iload_n 3, 1) := by decide +kernel
theorem dX8_splits_34 : decode cX8_splits 34 = .ok (.bipush 40, 2) := by decide +kernel
theorem dX8_splits_36 : decode cX8_splits 36 = .ok (.if_icmp .gt 37, 3) := by decide +kernel
theorem dX8_splits_39 : decode cX8_splits 39 = .ok (.aload_n 0, 1) := by decide +kernel
theorem dX8_splits_40 : decode cX8_splits 40 = .ok (.getfield 92, 3) := by decide +kernel
theorem dX8_splits_43 : decode cX8_splits 43 = .ok (.aload_n 0, 1) := by decide +kernel
theorem dX8_splits_44 : decode cX8_splits 44 = .ok (.invokevirtual 451, 3) := by decide +kernel
theorem dX8_splits_47 : decode cX8_splits 47 = .ok (.laload, 1) := by decide +kernel
theorem dX8_splits_48 : decode cX8_splits 48 = .ok (.iload_n 2, 1) := by decide +kernel
theorem dX8_splits_49 : decode cX8_splits 49 = .ok (.i2l, 1) := by decide +kernel
theorem dX8_splits_50 : decode cX8_splits 50 = .ok (.lcmp, 1) := by decide +kernel
theorem dX8_splits_51 : decode cX8_splits 51 = .ok (.ifCond .gt 5, 3) := by decide +kernel
theorem dX8_splits_54 : decode cX8_splits 54 = .ok (.iload_n 3, 1) := by decide +kernel
theorem dX8_splits_55 : decode cX8_splits 55 = .ok (.ireturn, 1) := by decide +kernel
theorem dX8_splits_56 : decode cX8_splits 56 = .ok (.aload_n 0, 1) := by decide +kernel
theorem dX8_splits_57 : decode cX8_splits 57 = .ok (.iload_n 1, 1) := by decide +kernel
theorem dX8_splits_58 : decode cX8_splits 58 = .ok (.invokevirtual 465, 3) := by decide +kernel
theorem dX8_splits_61 : decode cX8_splits 61 = .ok (.ifCond .ne 6, 3) := by decide +kernel
theorem dX8_splits_64 : decode cX8_splits 64 = .ok (.bipush (-2), 2) := by decide +kernel
theorem dX8_splits_66 : decode cX8_splits 66 = .ok (.ireturn, 1) := by decide +kernel
theorem dX8_splits_67 : decode cX8_splits 67 = .ok (.iinc 3 1, 3) := by decide +kernel
theorem dX8_splits_70 : decode cX8_splits 70 = .ok (.goto (-37), 3) := by decide +kernel
theorem dX8_splits_73 : decode cX8_splits 73 = .ok (.bipush (-2), 2) := by decide +kernel
theorem dX8_splits_75 : decode cX8_splits 75 = .ok (.ireturn, 1) := by decide +kernel
theorem dX8_draws_0 : decode cX8_draws 0 = .ok (.aload_n 0, 1) := by decide +kernel
theorem dX8_draws_1 : decode cX8_draws 1 = .ok (.bipush 75, 2) := by decide +kernel
theorem dX8_draws_3 : decode cX8_draws 3 = .ok (.aload_n 0, 1) := by decide +kernel
theorem dX8_draws_4 : decode cX8_draws 4 = .ok (.getfield 468, 3) := by decide +kernel
theorem dX8_draws_7 : decode cX8_draws 7 = .ok (.imul, 1) := by decide +kernel
theorem dX8_draws_8 : decode cX8_draws 8 = .ok (.bipush 74, 2) := by decide +kernel
theorem dX8_draws_10 : decode cX8_draws 10 = .ok (.iadd, 1) := by decide +kernel
theorem dX8_draws_11 : decode cX8_draws 11 = .ok (.ldc_w 471, 3) := by decide +kernel
theorem dX8_draws_14 : decode cX8_draws 14 = .ok (.irem, 1) := by decide +kernel
theorem dX8_draws_15 : decode cX8_draws 15 = .ok (.putfield 468, 3) := by decide +kernel
theorem dX8_draws_18 : decode cX8_draws 18 = .ok (.aload_n 0, 1) := by decide +kernel
theorem dX8_draws_19 : decode cX8_draws 19 = .ok (.getfield 468, 3) := by decide +kernel
theorem dX8_draws_22 : decode cX8_draws 22 = .ok (.iload_n 1, 1) := by decide +kernel
theorem dX8_draws_23 : decode cX8_draws 23 = .ok (.irem, 1) := by decide +kernel
theorem dX8_draws_24 : decode cX8_draws 24 = .ok (.ireturn, 1) := by decide +kernel
theorem dX8_drawsPoint_0 : decode cX8_drawsPoint 0 = .ok (.iconst 0, 1) := by decide +kernel
theorem dX8_drawsPoint_1 : decode cX8_drawsPoint 1 = .ok (.istore_n 1, 1) := by decide +kernel
theorem dX8_drawsPoint_2 : decode cX8_drawsPoint 2 = .ok (.iload_n 1, 1) := by decide +kernel
theorem dX8_drawsPoint_3 : decode cX8_drawsPoint 3 = .ok (.aload_n 0, 1) := by decide +kernel
theorem dX8_drawsPoint_4 : decode cX8_drawsPoint 4 = .ok (.getfield 259, 3) := by decide +kernel
theorem dX8_drawsPoint_7 : decode cX8_drawsPoint 7 = .ok (.if_icmp .ge 57, 3) := by decide +kernel
theorem dX8_drawsPoint_10 : decode cX8_drawsPoint 10 = .ok (.aload_n 0, 1) := by decide +kernel
theorem dX8_drawsPoint_11 : decode cX8_drawsPoint 11 = .ok (.getfield 62, 3) := by decide +kernel
theorem dX8_drawsPoint_14 : decode cX8_drawsPoint 14 = .ok (.iload_n 1, 1) := by decide +kernel
theorem dX8_drawsPoint_15 : decode cX8_drawsPoint 15 = .ok (.aload_n 0, 1) := by decide +kernel
theorem dX8_drawsPoint_16 : decode cX8_drawsPoint 16 = .ok (.getfield 19, 3) := by decide +kernel
theorem dX8_drawsPoint_19 : decode cX8_drawsPoint 19 = .ok (.iload_n 1, 1) := by decide +kernel
theorem dX8_drawsPoint_20 : decode cX8_drawsPoint 20 = .ok (.iaload, 1) := by decide +kernel
theorem dX8_drawsPoint_21 : decode cX8_drawsPoint 21 = .ok (.invokestatic 248, 3) := by decide +kernel
theorem dX8_drawsPoint_24 : decode cX8_drawsPoint 24 = .ok (.ifCond .eq 32, 3) := by decide +kernel
theorem dX8_drawsPoint_27 : decode cX8_drawsPoint 27 = .ok (.aload_n 0, 1) := by decide +kernel
theorem dX8_drawsPoint_28 : decode cX8_drawsPoint 28 = .ok (.getfield 25, 3) := by decide +kernel
theorem dX8_drawsPoint_31 : decode cX8_drawsPoint 31 = .ok (.iload_n 1, 1) := by decide +kernel
theorem dX8_drawsPoint_32 : decode cX8_drawsPoint 32 = .ok (.iaload, 1) := by decide +kernel
theorem dX8_drawsPoint_33 : decode cX8_drawsPoint 33 = .ok (.aload_n 0, 1) := by decide +kernel
theorem dX8_drawsPoint_34 : decode cX8_drawsPoint 34 = .ok (.aload_n 0, 1) := by decide +kernel
theorem dX8_drawsPoint_35 : decode cX8_drawsPoint 35 = .ok (.getfield 28, 3) := by decide +kernel
theorem dX8_drawsPoint_38 : decode cX8_drawsPoint 38 = .ok (.iload_n 1, 1) := by decide +kernel
theorem dX8_drawsPoint_39 : decode cX8_drawsPoint 39 = .ok (.iaload, 1) := by decide +kernel
theorem dX8_drawsPoint_40 : decode cX8_drawsPoint 40 = .ok (.aload_n 0, 1) := by decide +kernel
theorem dX8_drawsPoint_41 : decode cX8_drawsPoint 41 = .ok (.getfield 25, 3) := by decide +kernel
theorem dX8_drawsPoint_44 : decode cX8_drawsPoint 44 = .ok (.iload_n 1, 1) := by decide +kernel
theorem dX8_drawsPoint_45 : decode cX8_drawsPoint 45 = .ok (.iaload, 1) := by decide +kernel
theorem dX8_drawsPoint_46 : decode cX8_drawsPoint 46 = .ok (.isub, 1) := by decide +kernel
theorem dX8_drawsPoint_47 : decode cX8_drawsPoint 47 = .ok (.iconst 1, 1) := by decide +kernel
theorem dX8_drawsPoint_48 : decode cX8_drawsPoint 48 = .ok (.iadd, 1) := by decide +kernel
theorem dX8_drawsPoint_49 : decode cX8_drawsPoint 49 = .ok (.invokevirtual 472, 3) := by decide +kernel
theorem dX8_drawsPoint_52 : decode cX8_drawsPoint 52 = .ok (.iadd, 1) := by decide +kernel
theorem dX8_drawsPoint_53 : decode cX8_drawsPoint 53 = .ok (.goto 4, 3) := by decide +kernel
theorem dX8_drawsPoint_56 : decode cX8_drawsPoint 56 = .ok (.iconst 0, 1) := by decide +kernel
theorem dX8_drawsPoint_57 : decode cX8_drawsPoint 57 = .ok (.iastore, 1) := by decide +kernel
theorem dX8_drawsPoint_58 : decode cX8_drawsPoint 58 = .ok (.iinc 1 1, 3) := by decide +kernel
theorem dX8_drawsPoint_61 : decode cX8_drawsPoint 61 = .ok (.goto (-59), 3) := by decide +kernel
theorem dX8_drawsPoint_64 : decode cX8_drawsPoint 64 = .ok (.return_, 1) := by decide +kernel
theorem dX8_errorAt_0 : decode cX8_errorAt 0 = .ok (.aload_n 0, 1) := by decide +kernel
theorem dX8_errorAt_1 : decode cX8_errorAt 1 = .ok (.invokevirtual 340, 3) := by decide +kernel
theorem dX8_errorAt_4 : decode cX8_errorAt 4 = .ok (.aload_n 0, 1) := by decide +kernel
theorem dX8_errorAt_5 : decode cX8_errorAt 5 = .ok (.getfield 59, 3) := by decide +kernel
theorem dX8_errorAt_8 : decode cX8_errorAt 8 = .ok (.iload_n 1, 1) := by decide +kernel
theorem dX8_errorAt_9 : decode cX8_errorAt 9 = .ok (.laload, 1) := by decide +kernel
theorem dX8_errorAt_10 : decode cX8_errorAt 10 = .ok (.aload_n 0, 1) := by decide +kernel
theorem dX8_errorAt_11 : decode cX8_errorAt 11 = .ok (.getfield 56, 3) := by decide +kernel
theorem dX8_errorAt_14 : decode cX8_errorAt 14 = .ok (.iload_n 1, 1) := by decide +kernel
theorem dX8_errorAt_15 : decode cX8_errorAt 15 = .ok (.laload, 1) := by decide +kernel
theorem dX8_errorAt_16 : decode cX8_errorAt 16 = .ok (.lsub, 1) := by decide +kernel
theorem dX8_errorAt_17 : decode cX8_errorAt 17 = .ok (.invokestatic 244, 3) := by decide +kernel
theorem dX8_errorAt_20 : decode cX8_errorAt 20 = .ok (.lreturn, 1) := by decide +kernel
theorem dX8_isMoved_0 : decode cX8_isMoved 0 = .ok (.aload_n 0, 1) := by decide +kernel
theorem dX8_isMoved_1 : decode cX8_isMoved 1 = .ok (.getfield 62, 3) := by decide +kernel
theorem dX8_isMoved_4 : decode cX8_isMoved 4 = .ok (.iload_n 2, 1) := by decide +kernel
theorem dX8_isMoved_5 : decode cX8_isMoved 5 = .ok (.iaload, 1) := by decide +kernel
theorem dX8_isMoved_6 : decode cX8_isMoved 6 = .ok (.iload_n 3, 1) := by decide +kernel
theorem dX8_isMoved_7 : decode cX8_isMoved 7 = .ok (.iadd, 1) := by decide +kernel
theorem dX8_isMoved_8 : decode cX8_isMoved 8 = .ok (.i2l, 1) := by decide +kernel
theorem dX8_isMoved_9 : decode cX8_isMoved 9 = .ok (.aload_n 0, 1) := by decide +kernel
theorem dX8_isMoved_10 : decode cX8_isMoved 10 = .ok (.getfield 25, 3) := by decide +kernel
theorem dX8_isMoved_13 : decode cX8_isMoved 13 = .ok (.iload_n 2, 1) := by decide +kernel
theorem dX8_isMoved_14 : decode cX8_isMoved 14 = .ok (.iaload, 1) := by decide +kernel
theorem dX8_isMoved_15 : decode cX8_isMoved 15 = .ok (.i2l, 1) := by decide +kernel
theorem dX8_isMoved_16 : decode cX8_isMoved 16 = .ok (.aload_n 0, 1) := by decide +kernel
theorem dX8_isMoved_17 : decode cX8_isMoved 17 = .ok (.getfield 28, 3) := by decide +kernel
theorem dX8_isMoved_20 : decode cX8_isMoved 20 = .ok (.iload_n 2, 1) := by decide +kernel
theorem dX8_isMoved_21 : decode cX8_isMoved 21 = .ok (.iaload, 1) := by decide +kernel
theorem dX8_isMoved_22 : decode cX8_isMoved 22 = .ok (.i2l, 1) := by decide +kernel
theorem dX8_isMoved_23 : decode cX8_isMoved 23 = .ok (.invokestatic 140, 3) := by decide +kernel
theorem dX8_isMoved_26 : decode cX8_isMoved 26 = .ok (.ifCond .ne 5, 3) := by decide +kernel
theorem dX8_isMoved_29 : decode cX8_isMoved 29 = .ok (.iconst 0, 1) := by decide +kernel
theorem dX8_isMoved_30 : decode cX8_isMoved 30 = .ok (.ireturn, 1) := by decide +kernel
theorem dX8_isMoved_31 : decode cX8_isMoved 31 = .ok (.aload_n 0, 1) := by decide +kernel
theorem dX8_isMoved_32 : decode cX8_isMoved 32 = .ok (.getfield 62, 3) := by decide +kernel
theorem dX8_isMoved_35 : decode cX8_isMoved 35 = .ok (.iload_n 2, 1) := by decide +kernel
theorem dX8_isMoved_36 : decode cX8_isMoved 36 = .ok (.dup2, 1) := by decide +kernel
theorem dX8_isMoved_37 : decode cX8_isMoved 37 = .ok (.iaload, 1) := by decide +kernel
theorem dX8_isMoved_38 : decode cX8_isMoved 38 = .ok (.iload_n 3, 1) := by decide +kernel
theorem dX8_isMoved_39 : decode cX8_isMoved 39 = .ok (.iadd, 1) := by decide +kernel
theorem dX8_isMoved_40 : decode cX8_isMoved 40 = .ok (.iastore, 1) := by decide +kernel
theorem dX8_isMoved_41 : decode cX8_isMoved 41 = .ok (.aload_n 0, 1) := by decide +kernel
theorem dX8_isMoved_42 : decode cX8_isMoved 42 = .ok (.iload_n 1, 1) := by decide +kernel
theorem dX8_isMoved_43 : decode cX8_isMoved 43 = .ok (.invokevirtual 475, 3) := by decide +kernel
theorem dX8_isMoved_46 : decode cX8_isMoved 46 = .ok (.lload 4, 2) := by decide +kernel
theorem dX8_isMoved_48 : decode cX8_isMoved 48 = .ok (.lcmp, 1) := by decide +kernel
theorem dX8_isMoved_49 : decode cX8_isMoved 49 = .ok (.ifCond .le 5, 3) := by decide +kernel
theorem dX8_isMoved_52 : decode cX8_isMoved 52 = .ok (.iconst 1, 1) := by decide +kernel
theorem dX8_isMoved_53 : decode cX8_isMoved 53 = .ok (.ireturn, 1) := by decide +kernel
theorem dX8_isMoved_54 : decode cX8_isMoved 54 = .ok (.aload_n 0, 1) := by decide +kernel
theorem dX8_isMoved_55 : decode cX8_isMoved 55 = .ok (.getfield 62, 3) := by decide +kernel
theorem dX8_isMoved_58 : decode cX8_isMoved 58 = .ok (.iload_n 2, 1) := by decide +kernel
theorem dX8_isMoved_59 : decode cX8_isMoved 59 = .ok (.dup2, 1) := by decide +kernel
theorem dX8_isMoved_60 : decode cX8_isMoved 60 = .ok (.iaload, 1) := by decide +kernel
theorem dX8_isMoved_61 : decode cX8_isMoved 61 = .ok (.iload_n 3, 1) := by decide +kernel
theorem dX8_isMoved_62 : decode cX8_isMoved 62 = .ok (.isub, 1) := by decide +kernel
theorem dX8_isMoved_63 : decode cX8_isMoved 63 = .ok (.iastore, 1) := by decide +kernel
theorem dX8_isMoved_64 : decode cX8_isMoved 64 = .ok (.iconst 0, 1) := by decide +kernel
theorem dX8_isMoved_65 : decode cX8_isMoved 65 = .ok (.ireturn, 1) := by decide +kernel
theorem dX8_climbsOnce_0 : decode cX8_climbsOnce 0 = .ok (.aload_n 0, 1) := by decide +kernel
theorem dX8_climbsOnce_1 : decode cX8_climbsOnce 1 = .ok (.iload_n 1, 1) := by decide +kernel
theorem dX8_climbsOnce_2 : decode cX8_climbsOnce 2 = .ok (.invokevirtual 475, 3) := by decide +kernel
theorem dX8_climbsOnce_5 : decode cX8_climbsOnce 5 = .ok (.lstore_n 2, 1) := by decide +kernel
theorem dX8_climbsOnce_6 : decode cX8_climbsOnce 6 = .ok (.iconst 0, 1) := by decide +kernel
theorem dX8_climbsOnce_7 : decode cX8_climbsOnce 7 = .ok (.istore 4, 2) := by decide +kernel
theorem dX8_climbsOnce_9 : decode cX8_climbsOnce 9 = .ok (.iload 4, 2) := by decide +kernel
theorem dX8_climbsOnce_11 : decode cX8_climbsOnce 11 = .ok (.aload_n 0, 1) := by decide +kernel
theorem dX8_climbsOnce_12 : decode cX8_climbsOnce 12 = .ok (.getfield 259, 3) := by decide +kernel
theorem dX8_climbsOnce_15 : decode cX8_climbsOnce 15 = .ok (.if_icmp .ge 70, 3) := by decide +kernel
theorem dX8_climbsOnce_18 : decode cX8_climbsOnce 18 = .ok (.sipush 256, 3) := by decide +kernel
theorem dX8_climbsOnce_21 : decode cX8_climbsOnce 21 = .ok (.istore 5, 2) := by decide +kernel
theorem dX8_climbsOnce_23 : decode cX8_climbsOnce 23 = .ok (.iload 5, 2) := by decide +kernel
theorem dX8_climbsOnce_25 : decode cX8_climbsOnce 25 = .ok (.ifCond .le 54, 3) := by decide +kernel
theorem dX8_climbsOnce_28 : decode cX8_climbsOnce 28 = .ok (.aload_n 0, 1) := by decide +kernel
theorem dX8_climbsOnce_29 : decode cX8_climbsOnce 29 = .ok (.getfield 19, 3) := by decide +kernel
theorem dX8_climbsOnce_32 : decode cX8_climbsOnce 32 = .ok (.iload 4, 2) := by decide +kernel
theorem dX8_climbsOnce_34 : decode cX8_climbsOnce 34 = .ok (.iaload, 1) := by decide +kernel
theorem dX8_climbsOnce_35 : decode cX8_climbsOnce 35 = .ok (.invokestatic 248, 3) := by decide +kernel
theorem dX8_climbsOnce_38 : decode cX8_climbsOnce 38 = .ok (.ifCond .eq 41, 3) := by decide +kernel
theorem dX8_climbsOnce_41 : decode cX8_climbsOnce 41 = .ok (.aload_n 0, 1) := by decide +kernel
theorem dX8_climbsOnce_42 : decode cX8_climbsOnce 42 = .ok (.iload_n 1, 1) := by decide +kernel
theorem dX8_climbsOnce_43 : decode cX8_climbsOnce 43 = .ok (.iload 4, 2) := by decide +kernel
theorem dX8_climbsOnce_45 : decode cX8_climbsOnce 45 = .ok (.iload 5, 2) := by decide +kernel
theorem dX8_climbsOnce_47 : decode cX8_climbsOnce 47 = .ok (.lload_n 2, 1) := by decide +kernel
theorem dX8_climbsOnce_48 : decode cX8_climbsOnce 48 = .ok (.invokevirtual 478, 3) := by decide +kernel
theorem dX8_climbsOnce_51 : decode cX8_climbsOnce 51 = .ok (.ifCond .ne 17, 3) := by decide +kernel
theorem dX8_climbsOnce_54 : decode cX8_climbsOnce 54 = .ok (.aload_n 0, 1) := by decide +kernel
theorem dX8_climbsOnce_55 : decode cX8_climbsOnce 55 = .ok (.iload_n 1, 1) := by decide +kernel
theorem dX8_climbsOnce_56 : decode cX8_climbsOnce 56 = .ok (.iload 4, 2) := by decide +kernel
theorem dX8_climbsOnce_58 : decode cX8_climbsOnce 58 = .ok (.iload 5, 2) := by decide +kernel
theorem dX8_climbsOnce_60 : decode cX8_climbsOnce 60 = .ok (.ineg, 1) := by decide +kernel
theorem dX8_climbsOnce_61 : decode cX8_climbsOnce 61 = .ok (.lload_n 2, 1) := by decide +kernel
theorem dX8_climbsOnce_62 : decode cX8_climbsOnce 62 = .ok (.invokevirtual 478, 3) := by decide +kernel
theorem dX8_climbsOnce_65 : decode cX8_climbsOnce 65 = .ok (.ifCond .eq 5, 3) := by decide +kernel
theorem dX8_climbsOnce_68 : decode cX8_climbsOnce 68 = .ok (.iconst 1, 1) := by decide +kernel
theorem dX8_climbsOnce_69 : decode cX8_climbsOnce 69 = .ok (.ireturn, 1) := by decide +kernel
theorem dX8_climbsOnce_70 : decode cX8_climbsOnce 70 = .ok (.iload 5, 2) := by decide +kernel
theorem dX8_climbsOnce_72 : decode cX8_climbsOnce 72 = .ok (.iconst 2, 1) := by decide +kernel
theorem dX8_climbsOnce_73 : decode cX8_climbsOnce 73 = .ok (.idiv, 1) := by decide +kernel
theorem dX8_climbsOnce_74 : decode cX8_climbsOnce 74 = .ok (.istore 5, 2) := by decide +kernel
theorem dX8_climbsOnce_76 : decode cX8_climbsOnce 76 = .ok (.goto (-53), 3) := by decide +kernel
theorem dX8_climbsOnce_79 : decode cX8_climbsOnce 79 = .ok (.iinc 4 1, 3) := by decide +kernel
theorem dX8_climbsOnce_82 : decode cX8_climbsOnce 82 = .ok (.goto (-73), 3) := by decide +kernel
theorem dX8_climbsOnce_85 : decode cX8_climbsOnce 85 = .ok (.iconst 0, 1) := by decide +kernel
theorem dX8_climbsOnce_86 : decode cX8_climbsOnce 86 = .ok (.ireturn, 1) := by decide +kernel
theorem dX8_climbsAll_0 : decode cX8_climbsAll 0 = .ok (.aload_n 0, 1) := by decide +kernel
theorem dX8_climbsAll_1 : decode cX8_climbsAll 1 = .ok (.iload_n 3, 1) := by decide +kernel
theorem dX8_climbsAll_2 : decode cX8_climbsAll 2 = .ok (.putfield 468, 3) := by decide +kernel
theorem dX8_climbsAll_5 : decode cX8_climbsAll 5 = .ok (.aload_n 0, 1) := by decide +kernel
theorem dX8_climbsAll_6 : decode cX8_climbsAll 6 = .ok (.ldc2_w 400, 3) := by decide +kernel
theorem dX8_climbsAll_9 : decode cX8_climbsAll 9 = .ok (.putfield 482, 3) := by decide +kernel
theorem dX8_climbsAll_12 : decode cX8_climbsAll 12 = .ok (.iconst 0, 1) := by decide +kernel
theorem dX8_climbsAll_13 : decode cX8_climbsAll 13 = .ok (.istore 4, 2) := by decide +kernel
theorem dX8_climbsAll_15 : decode cX8_climbsAll 15 = .ok (.iload 4, 2) := by decide +kernel
theorem dX8_climbsAll_17 : decode cX8_climbsAll 17 = .ok (.iload_n 2, 1) := by decide +kernel
theorem dX8_climbsAll_18 : decode cX8_climbsAll 18 = .ok (.if_icmp .ge 92, 3) := by decide +kernel
theorem dX8_climbsAll_21 : decode cX8_climbsAll 21 = .ok (.aload_n 0, 1) := by decide +kernel
theorem dX8_climbsAll_22 : decode cX8_climbsAll 22 = .ok (.invokevirtual 486, 3) := by decide +kernel
theorem dX8_climbsAll_25 : decode cX8_climbsAll 25 = .ok (.iconst 0, 1) := by decide +kernel
theorem dX8_climbsAll_26 : decode cX8_climbsAll 26 = .ok (.istore 5, 2) := by decide +kernel
theorem dX8_climbsAll_28 : decode cX8_climbsAll 28 = .ok (.iload 5, 2) := by decide +kernel
theorem dX8_climbsAll_30 : decode cX8_climbsAll 30 = .ok (.bipush 40, 2) := by decide +kernel
theorem dX8_climbsAll_32 : decode cX8_climbsAll 32 = .ok (.if_icmp .ge 17, 3) := by decide +kernel
theorem dX8_climbsAll_35 : decode cX8_climbsAll 35 = .ok (.aload_n 0, 1) := by decide +kernel
theorem dX8_climbsAll_36 : decode cX8_climbsAll 36 = .ok (.iload_n 1, 1) := by decide +kernel
theorem dX8_climbsAll_37 : decode cX8_climbsAll 37 = .ok (.invokevirtual 489, 3) := by decide +kernel
theorem dX8_climbsAll_40 : decode cX8_climbsAll 40 = .ok (.ifCond .eq 9, 3) := by decide +kernel
theorem dX8_climbsAll_43 : decode cX8_climbsAll 43 = .ok (.iinc 5 1, 3) := by decide +kernel
theorem dX8_climbsAll_46 : decode cX8_climbsAll 46 = .ok (.goto (-18), 3) := by decide +kernel
theorem dX8_climbsAll_49 : decode cX8_climbsAll 49 = .ok (.aload_n 0, 1) := by decide +kernel
theorem dX8_climbsAll_50 : decode cX8_climbsAll 50 = .ok (.iload_n 1, 1) := by decide +kernel
theorem dX8_climbsAll_51 : decode cX8_climbsAll 51 = .ok (.invokevirtual 475, 3) := by decide +kernel
theorem dX8_climbsAll_54 : decode cX8_climbsAll 54 = .ok (.lstore 6, 2) := by decide +kernel
theorem dX8_climbsAll_56 : decode cX8_climbsAll 56 = .ok (.lload 6, 2) := by decide +kernel
theorem dX8_climbsAll_58 : decode cX8_climbsAll 58 = .ok (.aload_n 0, 1) := by decide +kernel
theorem dX8_climbsAll_59 : decode cX8_climbsAll 59 = .ok (.getfield 482, 3) := by decide +kernel
theorem dX8_climbsAll_62 : decode cX8_climbsAll 62 = .ok (.lcmp, 1) := by decide +kernel
theorem dX8_climbsAll_63 : decode cX8_climbsAll 63 = .ok (.ifCond .le 41, 3) := by decide +kernel
theorem dX8_climbsAll_66 : decode cX8_climbsAll 66 = .ok (.aload_n 0, 1) := by decide +kernel
theorem dX8_climbsAll_67 : decode cX8_climbsAll 67 = .ok (.lload 6, 2) := by decide +kernel
theorem dX8_climbsAll_69 : decode cX8_climbsAll 69 = .ok (.putfield 482, 3) := by decide +kernel
theorem dX8_climbsAll_72 : decode cX8_climbsAll 72 = .ok (.iconst 0, 1) := by decide +kernel
theorem dX8_climbsAll_73 : decode cX8_climbsAll 73 = .ok (.istore 8, 2) := by decide +kernel
theorem dX8_climbsAll_75 : decode cX8_climbsAll 75 = .ok (.iload 8, 2) := by decide +kernel
theorem dX8_climbsAll_77 : decode cX8_climbsAll 77 = .ok (.aload_n 0, 1) := by decide +kernel
theorem dX8_climbsAll_78 : decode cX8_climbsAll 78 = .ok (.getfield 259, 3) := by decide +kernel
theorem dX8_climbsAll_81 : decode cX8_climbsAll 81 = .ok (.if_icmp .ge 23, 3) := by decide +kernel
theorem dX8_climbsAll_84 : decode cX8_climbsAll 84 = .ok (.aload_n 0, 1) := by decide +kernel
theorem dX8_climbsAll_85 : decode cX8_climbsAll 85 = .ok (.getfield 99, 3) := by decide +kernel
theorem dX8_climbsAll_88 : decode cX8_climbsAll 88 = .ok (.iload 8, 2) := by decide +kernel
theorem dX8_climbsAll_90 : decode cX8_climbsAll 90 = .ok (.aload_n 0, 1) := by decide +kernel
theorem dX8_climbsAll_91 : decode cX8_climbsAll 91 = .ok (.getfield 62, 3) := by decide +kernel
theorem dX8_climbsAll_94 : decode cX8_climbsAll 94 = .ok (.iload 8, 2) := by decide +kernel
theorem dX8_climbsAll_96 : decode cX8_climbsAll 96 = .ok (.iaload, 1) := by decide +kernel
theorem dX8_climbsAll_97 : decode cX8_climbsAll 97 = .ok (.iastore, 1) := by decide +kernel
theorem dX8_climbsAll_98 : decode cX8_climbsAll 98 = .ok (.iinc 8 1, 3) := by decide +kernel
theorem dX8_climbsAll_101 : decode cX8_climbsAll 101 = .ok (.goto (-26), 3) := by decide +kernel
theorem dX8_climbsAll_104 : decode cX8_climbsAll 104 = .ok (.iinc 4 1, 3) := by decide +kernel
theorem dX8_climbsAll_107 : decode cX8_climbsAll 107 = .ok (.goto (-92), 3) := by decide +kernel
theorem dX8_climbsAll_110 : decode cX8_climbsAll 110 = .ok (.return_, 1) := by decide +kernel
theorem dX8_isClimb_0 : decode cX8_isClimb 0 = .ok (.iload_n 1, 1) := by decide +kernel
theorem dX8_isClimb_1 : decode cX8_isClimb 1 = .ok (.i2l, 1) := by decide +kernel
theorem dX8_isClimb_2 : decode cX8_isClimb 2 = .ok (.lconst 1, 1) := by decide +kernel
theorem dX8_isClimb_3 : decode cX8_isClimb 3 = .ok (.ldc2_w 492, 3) := by decide +kernel
theorem dX8_isClimb_6 : decode cX8_isClimb 6 = .ok (.invokestatic 140, 3) := by decide +kernel
theorem dX8_isClimb_9 : decode cX8_isClimb 9 = .ok (.ifCond .eq 19, 3) := by decide +kernel
theorem dX8_isClimb_12 : decode cX8_isClimb 12 = .ok (.iload_n 2, 1) := by decide +kernel
theorem dX8_isClimb_13 : decode cX8_isClimb 13 = .ok (.i2l, 1) := by decide +kernel
theorem dX8_isClimb_14 : decode cX8_isClimb 14 = .ok (.lconst 0, 1) := by decide +kernel
theorem dX8_isClimb_15 : decode cX8_isClimb 15 = .ok (.ldc2_w 494, 3) := by decide +kernel
theorem dX8_isClimb_18 : decode cX8_isClimb 18 = .ok (.invokestatic 140, 3) := by decide +kernel
theorem dX8_isClimb_21 : decode cX8_isClimb 21 = .ok (.ifCond .eq 7, 3) := by decide +kernel
theorem dX8_isClimb_24 : decode cX8_isClimb 24 = .ok (.iconst 1, 1) := by decide +kernel
theorem dX8_isClimb_25 : decode cX8_isClimb 25 = .ok (.goto 4, 3) := by decide +kernel
theorem dX8_isClimb_28 : decode cX8_isClimb 28 = .ok (.iconst 0, 1) := by decide +kernel
theorem dX8_isClimb_29 : decode cX8_isClimb 29 = .ok (.ireturn, 1) := by decide +kernel
theorem dX8_climb_0 : decode cX8_climb 0 = .ok (.aload_n 0, 1) := by decide +kernel
theorem dX8_climb_1 : decode cX8_climb 1 = .ok (.aload_n 0, 1) := by decide +kernel
theorem dX8_climb_2 : decode cX8_climb 2 = .ok (.iload_n 1, 1) := by decide +kernel
theorem dX8_climb_3 : decode cX8_climb 3 = .ok (.invokevirtual 285, 3) := by decide +kernel
theorem dX8_climb_6 : decode cX8_climb 6 = .ok (.aload_n 0, 1) := by decide +kernel
theorem dX8_climb_7 : decode cX8_climb 7 = .ok (.iload_n 2, 1) := by decide +kernel
theorem dX8_climb_8 : decode cX8_climb 8 = .ok (.iload_n 3, 1) := by decide +kernel
theorem dX8_climb_9 : decode cX8_climb 9 = .ok (.invokevirtual 496, 3) := by decide +kernel
theorem dX8_climb_12 : decode cX8_climb 12 = .ok (.invokestatic 346, 3) := by decide +kernel
theorem dX8_climb_15 : decode cX8_climb 15 = .ok (.invokevirtual 269, 3) := by decide +kernel
theorem dX8_climb_18 : decode cX8_climb 18 = .ok (.ifCond .eq 7, 3) := by decide +kernel
theorem dX8_climb_21 : decode cX8_climb 21 = .ok (.ldc2_w 111, 3) := by decide +kernel
theorem dX8_climb_24 : decode cX8_climb 24 = .ok (.lreturn, 1) := by decide +kernel
theorem dX8_climb_25 : decode cX8_climb 25 = .ok (.aload_n 0, 1) := by decide +kernel
theorem dX8_climb_26 : decode cX8_climb 26 = .ok (.iload_n 1, 1) := by decide +kernel
theorem dX8_climb_27 : decode cX8_climb 27 = .ok (.iload_n 2, 1) := by decide +kernel
theorem dX8_climb_28 : decode cX8_climb 28 = .ok (.iload_n 3, 1) := by decide +kernel
theorem dX8_climb_29 : decode cX8_climb 29 = .ok (.invokevirtual 499, 3) := by decide +kernel
theorem dX8_climb_32 : decode cX8_climb 32 = .ok (.aload_n 0, 1) := by decide +kernel
theorem dX8_climb_33 : decode cX8_climb 33 = .ok (.getfield 482, 3) := by decide +kernel
theorem dX8_climb_36 : decode cX8_climb 36 = .ok (.lreturn, 1) := by decide +kernel
theorem dX8_witness_0 : decode cX8_witness 0 = .ok (.aload_n 0, 1) := by decide +kernel
theorem dX8_witness_1 : decode cX8_witness 1 = .ok (.aload_n 0, 1) := by decide +kernel
theorem dX8_witness_2 : decode cX8_witness 2 = .ok (.iload_n 1, 1) := by decide +kernel
theorem dX8_witness_3 : decode cX8_witness 3 = .ok (.invokevirtual 285, 3) := by decide +kernel
theorem dX8_witness_6 : decode cX8_witness 6 = .ok (.aload_n 0, 1) := by decide +kernel
theorem dX8_witness_7 : decode cX8_witness 7 = .ok (.iload_n 2, 1) := by decide +kernel
theorem dX8_witness_8 : decode cX8_witness 8 = .ok (.iload_n 3, 1) := by decide +kernel
theorem dX8_witness_9 : decode cX8_witness 9 = .ok (.invokevirtual 496, 3) := by decide +kernel
theorem dX8_witness_12 : decode cX8_witness 12 = .ok (.invokestatic 346, 3) := by decide +kernel
theorem dX8_witness_15 : decode cX8_witness 15 = .ok (.invokevirtual 269, 3) := by decide +kernel
theorem dX8_witness_18 : decode cX8_witness 18 = .ok (.ifCond .eq 7, 3) := by decide +kernel
theorem dX8_witness_21 : decode cX8_witness 21 = .ok (.ldc2_w 111, 3) := by decide +kernel
theorem dX8_witness_24 : decode cX8_witness 24 = .ok (.lreturn, 1) := by decide +kernel
theorem dX8_witness_25 : decode cX8_witness 25 = .ok (.aload_n 0, 1) := by decide +kernel
theorem dX8_witness_26 : decode cX8_witness 26 = .ok (.iload 4, 2) := by decide +kernel
theorem dX8_witness_28 : decode cX8_witness 28 = .ok (.invokevirtual 343, 3) := by decide +kernel
theorem dX8_witness_31 : decode cX8_witness 31 = .ok (.ifCond .ne 9, 3) := by decide +kernel
theorem dX8_witness_34 : decode cX8_witness 34 = .ok (.aload_n 0, 1) := by decide +kernel
theorem dX8_witness_35 : decode cX8_witness 35 = .ok (.iconst 1, 1) := by decide +kernel
theorem dX8_witness_36 : decode cX8_witness 36 = .ok (.invokevirtual 432, 3) := by decide +kernel
theorem dX8_witness_39 : decode cX8_witness 39 = .ok (.lreturn, 1) := by decide +kernel
theorem dX8_witness_40 : decode cX8_witness 40 = .ok (.aload_n 0, 1) := by decide +kernel
theorem dX8_witness_41 : decode cX8_witness 41 = .ok (.iload_n 1, 1) := by decide +kernel
theorem dX8_witness_42 : decode cX8_witness 42 = .ok (.iload_n 2, 1) := by decide +kernel
theorem dX8_witness_43 : decode cX8_witness 43 = .ok (.iload_n 3, 1) := by decide +kernel
theorem dX8_witness_44 : decode cX8_witness 44 = .ok (.invokevirtual 499, 3) := by decide +kernel
theorem dX8_witness_47 : decode cX8_witness 47 = .ok (.aload_n 0, 1) := by decide +kernel
theorem dX8_witness_48 : decode cX8_witness 48 = .ok (.getfield 99, 3) := by decide +kernel
theorem dX8_witness_51 : decode cX8_witness 51 = .ok (.iload 4, 2) := by decide +kernel
theorem dX8_witness_53 : decode cX8_witness 53 = .ok (.iaload, 1) := by decide +kernel
theorem dX8_witness_54 : decode cX8_witness 54 = .ok (.i2l, 1) := by decide +kernel
theorem dX8_witness_55 : decode cX8_witness 55 = .ok (.lreturn, 1) := by decide +kernel
theorem dX8_nextPoint_0 : decode cX8_nextPoint 0 = .ok (.aload_n 0, 1) := by decide +kernel
theorem dX8_nextPoint_1 : decode cX8_nextPoint 1 = .ok (.getfield 259, 3) := by decide +kernel
theorem dX8_nextPoint_4 : decode cX8_nextPoint 4 = .ok (.iconst 1, 1) := by decide +kernel
theorem dX8_nextPoint_5 : decode cX8_nextPoint 5 = .ok (.isub, 1) := by decide +kernel
theorem dX8_nextPoint_6 : decode cX8_nextPoint 6 = .ok (.istore_n 1, 1) := by decide +kernel
theorem dX8_nextPoint_7 : decode cX8_nextPoint 7 = .ok (.iload_n 1, 1) := by decide +kernel
theorem dX8_nextPoint_8 : decode cX8_nextPoint 8 = .ok (.ifCond .lt 60, 3) := by decide +kernel
theorem dX8_nextPoint_11 : decode cX8_nextPoint 11 = .ok (.aload_n 0, 1) := by decide +kernel
theorem dX8_nextPoint_12 : decode cX8_nextPoint 12 = .ok (.getfield 19, 3) := by decide +kernel
theorem dX8_nextPoint_15 : decode cX8_nextPoint 15 = .ok (.iload_n 1, 1) := by decide +kernel
theorem dX8_nextPoint_16 : decode cX8_nextPoint 16 = .ok (.iaload, 1) := by decide +kernel
theorem dX8_nextPoint_17 : decode cX8_nextPoint 17 = .ok (.invokestatic 248, 3) := by decide +kernel
theorem dX8_nextPoint_20 : decode cX8_nextPoint 20 = .ok (.ifCond .eq 42, 3) := by decide +kernel
theorem dX8_nextPoint_23 : decode cX8_nextPoint 23 = .ok (.aload_n 0, 1) := by decide +kernel
theorem dX8_nextPoint_24 : decode cX8_nextPoint 24 = .ok (.getfield 62, 3) := by decide +kernel
theorem dX8_nextPoint_27 : decode cX8_nextPoint 27 = .ok (.iload_n 1, 1) := by decide +kernel
theorem dX8_nextPoint_28 : decode cX8_nextPoint 28 = .ok (.iaload, 1) := by decide +kernel
theorem dX8_nextPoint_29 : decode cX8_nextPoint 29 = .ok (.aload_n 0, 1) := by decide +kernel
theorem dX8_nextPoint_30 : decode cX8_nextPoint 30 = .ok (.getfield 28, 3) := by decide +kernel
theorem dX8_nextPoint_33 : decode cX8_nextPoint 33 = .ok (.iload_n 1, 1) := by decide +kernel
theorem dX8_nextPoint_34 : decode cX8_nextPoint 34 = .ok (.iaload, 1) := by decide +kernel
theorem dX8_nextPoint_35 : decode cX8_nextPoint 35 = .ok (.if_icmp .ge 15, 3) := by decide +kernel
theorem dX8_nextPoint_38 : decode cX8_nextPoint 38 = .ok (.aload_n 0, 1) := by decide +kernel
theorem dX8_nextPoint_39 : decode cX8_nextPoint 39 = .ok (.getfield 62, 3) := by decide +kernel
theorem dX8_nextPoint_42 : decode cX8_nextPoint 42 = .ok (.iload_n 1, 1) := by decide +kernel
theorem dX8_nextPoint_43 : decode cX8_nextPoint 43 = .ok (.dup2, 1) := by decide +kernel
theorem dX8_nextPoint_44 : decode cX8_nextPoint 44 = .ok (.iaload, 1) := by decide +kernel
theorem dX8_nextPoint_45 : decode cX8_nextPoint 45 = .ok (.iconst 1, 1) := by decide +kernel
theorem dX8_nextPoint_46 : decode cX8_nextPoint 46 = .ok (.iadd, 1) := by decide +kernel
theorem dX8_nextPoint_47 : decode cX8_nextPoint 47 = .ok (.iastore, 1) := by decide +kernel
theorem dX8_nextPoint_48 : decode cX8_nextPoint 48 = .ok (.iconst 1, 1) := by decide +kernel
theorem dX8_nextPoint_49 : decode cX8_nextPoint 49 = .ok (.ireturn, 1) := by decide +kernel
theorem dX8_nextPoint_50 : decode cX8_nextPoint 50 = .ok (.aload_n 0, 1) := by decide +kernel
theorem dX8_nextPoint_51 : decode cX8_nextPoint 51 = .ok (.getfield 62, 3) := by decide +kernel
theorem dX8_nextPoint_54 : decode cX8_nextPoint 54 = .ok (.iload_n 1, 1) := by decide +kernel
theorem dX8_nextPoint_55 : decode cX8_nextPoint 55 = .ok (.aload_n 0, 1) := by decide +kernel
theorem dX8_nextPoint_56 : decode cX8_nextPoint 56 = .ok (.getfield 25, 3) := by decide +kernel
theorem dX8_nextPoint_59 : decode cX8_nextPoint 59 = .ok (.iload_n 1, 1) := by decide +kernel
theorem dX8_nextPoint_60 : decode cX8_nextPoint 60 = .ok (.iaload, 1) := by decide +kernel
theorem dX8_nextPoint_61 : decode cX8_nextPoint 61 = .ok (.iastore, 1) := by decide +kernel
theorem dX8_nextPoint_62 : decode cX8_nextPoint 62 = .ok (.iinc 1 (-1), 3) := by decide +kernel
theorem dX8_nextPoint_65 : decode cX8_nextPoint 65 = .ok (.goto (-58), 3) := by decide +kernel
theorem dX8_nextPoint_68 : decode cX8_nextPoint 68 = .ok (.iconst 0, 1) := by decide +kernel
theorem dX8_nextPoint_69 : decode cX8_nextPoint 69 = .ok (.ireturn, 1) := by decide +kernel
theorem dX8_worst_0 : decode cX8_worst 0 = .ok (.aload_n 0, 1) := by decide +kernel
theorem dX8_worst_1 : decode cX8_worst 1 = .ok (.aload_n 0, 1) := by decide +kernel
theorem dX8_worst_2 : decode cX8_worst 2 = .ok (.iload_n 1, 1) := by decide +kernel
theorem dX8_worst_3 : decode cX8_worst 3 = .ok (.invokevirtual 285, 3) := by decide +kernel
theorem dX8_worst_6 : decode cX8_worst 6 = .ok (.ifCond .ne 7, 3) := by decide +kernel
theorem dX8_worst_9 : decode cX8_worst 9 = .ok (.iconst 1, 1) := by decide +kernel
theorem dX8_worst_10 : decode cX8_worst 10 = .ok (.goto 19, 3) := by decide +kernel
theorem dX8_worst_13 : decode cX8_worst 13 = .ok (.aload_n 0, 1) := by decide +kernel
theorem dX8_worst_14 : decode cX8_worst 14 = .ok (.invokevirtual 305, 3) := by decide +kernel
theorem dX8_worst_17 : decode cX8_worst 17 = .ok (.ldc2_w 502, 3) := by decide +kernel
theorem dX8_worst_20 : decode cX8_worst 20 = .ok (.lcmp, 1) := by decide +kernel
theorem dX8_worst_21 : decode cX8_worst 21 = .ok (.ifCond .le 7, 3) := by decide +kernel
theorem dX8_worst_24 : decode cX8_worst 24 = .ok (.iconst 3, 1) := by decide +kernel
theorem dX8_worst_25 : decode cX8_worst 25 = .ok (.goto 4, 3) := by decide +kernel
theorem dX8_worst_28 : decode cX8_worst 28 = .ok (.iconst 0, 1) := by decide +kernel
theorem dX8_worst_29 : decode cX8_worst 29 = .ok (.invokevirtual 269, 3) := by decide +kernel
theorem dX8_worst_32 : decode cX8_worst 32 = .ok (.ifCond .eq 7, 3) := by decide +kernel
theorem dX8_worst_35 : decode cX8_worst 35 = .ok (.ldc2_w 111, 3) := by decide +kernel
theorem dX8_worst_38 : decode cX8_worst 38 = .ok (.lreturn, 1) := by decide +kernel
theorem dX8_worst_39 : decode cX8_worst 39 = .ok (.iconst 0, 1) := by decide +kernel
theorem dX8_worst_40 : decode cX8_worst 40 = .ok (.istore_n 2, 1) := by decide +kernel
theorem dX8_worst_41 : decode cX8_worst 41 = .ok (.iload_n 2, 1) := by decide +kernel
theorem dX8_worst_42 : decode cX8_worst 42 = .ok (.aload_n 0, 1) := by decide +kernel
theorem dX8_worst_43 : decode cX8_worst 43 = .ok (.getfield 259, 3) := by decide +kernel
theorem dX8_worst_46 : decode cX8_worst 46 = .ok (.if_icmp .ge 21, 3) := by decide +kernel
theorem dX8_worst_49 : decode cX8_worst 49 = .ok (.aload_n 0, 1) := by decide +kernel
theorem dX8_worst_50 : decode cX8_worst 50 = .ok (.getfield 62, 3) := by decide +kernel
theorem dX8_worst_53 : decode cX8_worst 53 = .ok (.iload_n 2, 1) := by decide +kernel
theorem dX8_worst_54 : decode cX8_worst 54 = .ok (.aload_n 0, 1) := by decide +kernel
theorem dX8_worst_55 : decode cX8_worst 55 = .ok (.getfield 25, 3) := by decide +kernel
theorem dX8_worst_58 : decode cX8_worst 58 = .ok (.iload_n 2, 1) := by decide +kernel
theorem dX8_worst_59 : decode cX8_worst 59 = .ok (.iaload, 1) := by decide +kernel
theorem dX8_worst_60 : decode cX8_worst 60 = .ok (.iastore, 1) := by decide +kernel
theorem dX8_worst_61 : decode cX8_worst 61 = .ok (.iinc 2 1, 3) := by decide +kernel
theorem dX8_worst_64 : decode cX8_worst 64 = .ok (.goto (-23), 3) := by decide +kernel
theorem dX8_worst_67 : decode cX8_worst 67 = .ok (.aload_n 0, 1) := by decide +kernel
theorem dX8_worst_68 : decode cX8_worst 68 = .ok (.iload_n 1, 1) := by decide +kernel
theorem dX8_worst_69 : decode cX8_worst 69 = .ok (.invokevirtual 475, 3) := by decide +kernel
theorem dX8_worst_72 : decode cX8_worst 72 = .ok (.lstore_n 2, 1) := by decide +kernel
theorem dX8_worst_73 : decode cX8_worst 73 = .ok (.aload_n 0, 1) := by decide +kernel
theorem dX8_worst_74 : decode cX8_worst 74 = .ok (.invokevirtual 504, 3) := by decide +kernel
theorem dX8_worst_77 : decode cX8_worst 77 = .ok (.ifCond .eq 27, 3) := by decide +kernel
theorem dX8_worst_80 : decode cX8_worst 80 = .ok (.aload_n 0, 1) := by decide +kernel
theorem dX8_worst_81 : decode cX8_worst 81 = .ok (.iload_n 1, 1) := by decide +kernel
theorem dX8_worst_82 : decode cX8_worst 82 = .ok (.invokevirtual 475, 3) := by decide +kernel
theorem dX8_worst_85 : decode cX8_worst 85 = .ok (.lstore 4, 2) := by decide +kernel
theorem dX8_worst_87 : decode cX8_worst 87 = .ok (.lload 4, 2) := by decide +kernel
theorem dX8_worst_89 : decode cX8_worst 89 = .ok (.lload_n 2, 1) := by decide +kernel
theorem dX8_worst_90 : decode cX8_worst 90 = .ok (.lcmp, 1) := by decide +kernel
theorem dX8_worst_91 : decode cX8_worst 91 = .ok (.ifCond .le 8, 3) := by decide +kernel
theorem dX8_worst_94 : decode cX8_worst 94 = .ok (.lload 4, 2) := by decide +kernel
theorem dX8_worst_96 : decode cX8_worst 96 = .ok (.goto 4, 3) := by decide +kernel
theorem dX8_worst_99 : decode cX8_worst 99 = .ok (.lload_n 2, 1) := by decide +kernel
theorem dX8_worst_100 : decode cX8_worst 100 = .ok (.lstore_n 2, 1) := by decide +kernel
theorem dX8_worst_101 : decode cX8_worst 101 = .ok (.goto (-28), 3) := by decide +kernel
theorem dX8_worst_104 : decode cX8_worst 104 = .ok (.lload_n 2, 1) := by decide +kernel
theorem dX8_worst_105 : decode cX8_worst 105 = .ok (.lreturn, 1) := by decide +kernel
theorem dX8_parts_0 : decode cX8_parts 0 = .ok (.aload_n 0, 1) := by decide +kernel
theorem dX8_parts_1 : decode cX8_parts 1 = .ok (.iload_n 1, 1) := by decide +kernel
theorem dX8_parts_2 : decode cX8_parts 2 = .ok (.invokevirtual 352, 3) := by decide +kernel
theorem dX8_parts_5 : decode cX8_parts 5 = .ok (.istore 4, 2) := by decide +kernel
theorem dX8_parts_7 : decode cX8_parts 7 = .ok (.aload_n 0, 1) := by decide +kernel
theorem dX8_parts_8 : decode cX8_parts 8 = .ok (.iload 4, 2) := by decide +kernel
theorem dX8_parts_10 : decode cX8_parts 10 = .ok (.ifCond .eq 8, 3) := by decide +kernel
theorem dX8_parts_13 : decode cX8_parts 13 = .ok (.iload 4, 2) := by decide +kernel
theorem dX8_parts_15 : decode cX8_parts 15 = .ok (.goto 32, 3) := by decide +kernel
theorem dX8_parts_18 : decode cX8_parts 18 = .ok (.iload_n 2, 1) := by decide +kernel
theorem dX8_parts_19 : decode cX8_parts 19 = .ok (.i2l, 1) := by decide +kernel
theorem dX8_parts_20 : decode cX8_parts 20 = .ok (.lconst 1, 1) := by decide +kernel
theorem dX8_parts_21 : decode cX8_parts 21 = .ok (.ldc2_w 507, 3) := by decide +kernel
theorem dX8_parts_24 : decode cX8_parts 24 = .ok (.invokestatic 140, 3) := by decide +kernel
theorem dX8_parts_27 : decode cX8_parts 27 = .ok (.ifCond .eq 19, 3) := by decide +kernel
theorem dX8_parts_30 : decode cX8_parts 30 = .ok (.iload_n 3, 1) := by decide +kernel
theorem dX8_parts_31 : decode cX8_parts 31 = .ok (.i2l, 1) := by decide +kernel
theorem dX8_parts_32 : decode cX8_parts 32 = .ok (.lconst 0, 1) := by decide +kernel
theorem dX8_parts_33 : decode cX8_parts 33 = .ok (.ldc2_w 494, 3) := by decide +kernel
theorem dX8_parts_36 : decode cX8_parts 36 = .ok (.invokestatic 140, 3) := by decide +kernel
theorem dX8_parts_39 : decode cX8_parts 39 = .ok (.ifCond .eq 7, 3) := by decide +kernel
theorem dX8_parts_42 : decode cX8_parts 42 = .ok (.iconst 0, 1) := by decide +kernel
theorem dX8_parts_43 : decode cX8_parts 43 = .ok (.goto 4, 3) := by decide +kernel
theorem dX8_parts_46 : decode cX8_parts 46 = .ok (.iconst 2, 1) := by decide +kernel
theorem dX8_parts_47 : decode cX8_parts 47 = .ok (.invokevirtual 269, 3) := by decide +kernel
theorem dX8_parts_50 : decode cX8_parts 50 = .ok (.ifCond .eq 5, 3) := by decide +kernel
theorem dX8_parts_53 : decode cX8_parts 53 = .ok (.iconst (-1), 1) := by decide +kernel
theorem dX8_parts_54 : decode cX8_parts 54 = .ok (.ireturn, 1) := by decide +kernel
theorem dX8_parts_55 : decode cX8_parts 55 = .ok (.aload_n 0, 1) := by decide +kernel
theorem dX8_parts_56 : decode cX8_parts 56 = .ok (.iload_n 3, 1) := by decide +kernel
theorem dX8_parts_57 : decode cX8_parts 57 = .ok (.putfield 468, 3) := by decide +kernel
theorem dX8_parts_60 : decode cX8_parts 60 = .ok (.iconst 0, 1) := by decide +kernel
theorem dX8_parts_61 : decode cX8_parts 61 = .ok (.istore 5, 2) := by decide +kernel
theorem dX8_parts_63 : decode cX8_parts 63 = .ok (.iload 5, 2) := by decide +kernel
theorem dX8_parts_65 : decode cX8_parts 65 = .ok (.iload_n 2, 1) := by decide +kernel
theorem dX8_parts_66 : decode cX8_parts 66 = .ok (.if_icmp .ge 39, 3) := by decide +kernel
theorem dX8_parts_69 : decode cX8_parts 69 = .ok (.aload_n 0, 1) := by decide +kernel
theorem dX8_parts_70 : decode cX8_parts 70 = .ok (.invokevirtual 486, 3) := by decide +kernel
theorem dX8_parts_73 : decode cX8_parts 73 = .ok (.aload_n 0, 1) := by decide +kernel
theorem dX8_parts_74 : decode cX8_parts 74 = .ok (.invokevirtual 340, 3) := by decide +kernel
theorem dX8_parts_77 : decode cX8_parts 77 = .ok (.aload_n 0, 1) := by decide +kernel
theorem dX8_parts_78 : decode cX8_parts 78 = .ok (.iload_n 1, 1) := by decide +kernel
theorem dX8_parts_79 : decode cX8_parts 79 = .ok (.invokevirtual 355, 3) := by decide +kernel
theorem dX8_parts_82 : decode cX8_parts 82 = .ok (.istore 6, 2) := by decide +kernel
theorem dX8_parts_84 : decode cX8_parts 84 = .ok (.iload 6, 2) := by decide +kernel
theorem dX8_parts_86 : decode cX8_parts 86 = .ok (.iconst 1, 1) := by decide +kernel
theorem dX8_parts_87 : decode cX8_parts 87 = .ok (.if_icmp .eq 9, 3) := by decide +kernel
theorem dX8_parts_90 : decode cX8_parts 90 = .ok (.iload 6, 2) := by decide +kernel
theorem dX8_parts_92 : decode cX8_parts 92 = .ok (.iconst 2, 1) := by decide +kernel
theorem dX8_parts_93 : decode cX8_parts 93 = .ok (.if_icmp .ne 6, 3) := by decide +kernel
theorem dX8_parts_96 : decode cX8_parts 96 = .ok (.iload 5, 2) := by decide +kernel
theorem dX8_parts_98 : decode cX8_parts 98 = .ok (.ireturn, 1) := by decide +kernel
theorem dX8_parts_99 : decode cX8_parts 99 = .ok (.iinc 5 1, 3) := by decide +kernel
theorem dX8_parts_102 : decode cX8_parts 102 = .ok (.goto (-39), 3) := by decide +kernel
theorem dX8_parts_105 : decode cX8_parts 105 = .ok (.bipush (-2), 2) := by decide +kernel
theorem dX8_parts_107 : decode cX8_parts 107 = .ok (.ireturn, 1) := by decide +kernel
theorem dX8_finerOf_0 : decode cX8_finerOf 0 = .ok (.iconst 0, 1) := by decide +kernel
theorem dX8_finerOf_1 : decode cX8_finerOf 1 = .ok (.istore_n 3, 1) := by decide +kernel
theorem dX8_finerOf_2 : decode cX8_finerOf 2 = .ok (.aload_n 0, 1) := by decide +kernel
theorem dX8_finerOf_3 : decode cX8_finerOf 3 = .ok (.invokevirtual 299, 3) := by decide +kernel
theorem dX8_finerOf_6 : decode cX8_finerOf 6 = .ok (.aload_n 0, 1) := by decide +kernel
theorem dX8_finerOf_7 : decode cX8_finerOf 7 = .ok (.iload_n 1, 1) := by decide +kernel
theorem dX8_finerOf_8 : decode cX8_finerOf 8 = .ok (.invokevirtual 435, 3) := by decide +kernel
theorem dX8_finerOf_11 : decode cX8_finerOf 11 = .ok (.iload_n 2, 1) := by decide +kernel
theorem dX8_finerOf_12 : decode cX8_finerOf 12 = .ok (.i2l, 1) := by decide +kernel
theorem dX8_finerOf_13 : decode cX8_finerOf 13 = .ok (.lcmp, 1) := by decide +kernel
theorem dX8_finerOf_14 : decode cX8_finerOf 14 = .ok (.ifCond .le 51, 3) := by decide +kernel
theorem dX8_finerOf_17 : decode cX8_finerOf 17 = .ok (.aload_n 0, 1) := by decide +kernel
theorem dX8_finerOf_18 : decode cX8_finerOf 18 = .ok (.iload_n 1, 1) := by decide +kernel
theorem dX8_finerOf_19 : decode cX8_finerOf 19 = .ok (.invokevirtual 442, 3) := by decide +kernel
theorem dX8_finerOf_22 : decode cX8_finerOf 22 = .ok (.istore 4, 2) := by decide +kernel
theorem dX8_finerOf_24 : decode cX8_finerOf 24 = .ok (.iload 4, 2) := by decide +kernel
theorem dX8_finerOf_26 : decode cX8_finerOf 26 = .ok (.bipush (-2), 2) := by decide +kernel
theorem dX8_finerOf_28 : decode cX8_finerOf 28 = .ok (.if_icmp .eq 13, 3) := by decide +kernel
theorem dX8_finerOf_31 : decode cX8_finerOf 31 = .ok (.aload_n 0, 1) := by decide +kernel
theorem dX8_finerOf_32 : decode cX8_finerOf 32 = .ok (.getfield 22, 3) := by decide +kernel
theorem dX8_finerOf_35 : decode cX8_finerOf 35 = .ok (.iload 4, 2) := by decide +kernel
theorem dX8_finerOf_37 : decode cX8_finerOf 37 = .ok (.iaload, 1) := by decide +kernel
theorem dX8_finerOf_38 : decode cX8_finerOf 38 = .ok (.ifCond .ne 6, 3) := by decide +kernel
theorem dX8_finerOf_41 : decode cX8_finerOf 41 = .ok (.bipush (-2), 2) := by decide +kernel
theorem dX8_finerOf_43 : decode cX8_finerOf 43 = .ok (.ireturn, 1) := by decide +kernel
theorem dX8_finerOf_44 : decode cX8_finerOf 44 = .ok (.aload_n 0, 1) := by decide +kernel
theorem dX8_finerOf_45 : decode cX8_finerOf 45 = .ok (.getfield 22, 3) := by decide +kernel
theorem dX8_finerOf_48 : decode cX8_finerOf 48 = .ok (.iload 4, 2) := by decide +kernel
theorem dX8_finerOf_50 : decode cX8_finerOf 50 = .ok (.dup2, 1) := by decide +kernel
theorem dX8_finerOf_51 : decode cX8_finerOf 51 = .ok (.iaload, 1) := by decide +kernel
theorem dX8_finerOf_52 : decode cX8_finerOf 52 = .ok (.iconst 1, 1) := by decide +kernel
theorem dX8_finerOf_53 : decode cX8_finerOf 53 = .ok (.isub, 1) := by decide +kernel
theorem dX8_finerOf_54 : decode cX8_finerOf 54 = .ok (.iastore, 1) := by decide +kernel
theorem dX8_finerOf_55 : decode cX8_finerOf 55 = .ok (.iinc 3 1, 3) := by decide +kernel
theorem dX8_finerOf_58 : decode cX8_finerOf 58 = .ok (.aload_n 0, 1) := by decide +kernel
theorem dX8_finerOf_59 : decode cX8_finerOf 59 = .ok (.invokevirtual 299, 3) := by decide +kernel
theorem dX8_finerOf_62 : decode cX8_finerOf 62 = .ok (.goto (-56), 3) := by decide +kernel
theorem dX8_finerOf_65 : decode cX8_finerOf 65 = .ok (.iload_n 3, 1) := by decide +kernel
theorem dX8_finerOf_66 : decode cX8_finerOf 66 = .ok (.ireturn, 1) := by decide +kernel
theorem dX8_finer_0 : decode cX8_finer 0 = .ok (.aload_n 0, 1) := by decide +kernel
theorem dX8_finer_1 : decode cX8_finer 1 = .ok (.aload_n 0, 1) := by decide +kernel
theorem dX8_finer_2 : decode cX8_finer 2 = .ok (.iload_n 1, 1) := by decide +kernel
theorem dX8_finer_3 : decode cX8_finer 3 = .ok (.invokevirtual 285, 3) := by decide +kernel
theorem dX8_finer_6 : decode cX8_finer 6 = .ok (.iload_n 2, 1) := by decide +kernel
theorem dX8_finer_7 : decode cX8_finer 7 = .ok (.i2l, 1) := by decide +kernel
theorem dX8_finer_8 : decode cX8_finer 8 = .ok (.lconst 0, 1) := by decide +kernel
theorem dX8_finer_9 : decode cX8_finer 9 = .ok (.ldc2_w 257, 3) := by decide +kernel
theorem dX8_finer_12 : decode cX8_finer 12 = .ok (.invokestatic 140, 3) := by decide +kernel
theorem dX8_finer_15 : decode cX8_finer 15 = .ok (.invokestatic 346, 3) := by decide +kernel
theorem dX8_finer_18 : decode cX8_finer 18 = .ok (.invokevirtual 269, 3) := by decide +kernel
theorem dX8_finer_21 : decode cX8_finer 21 = .ok (.ifCond .eq 5, 3) := by decide +kernel
theorem dX8_finer_24 : decode cX8_finer 24 = .ok (.iconst (-1), 1) := by decide +kernel
theorem dX8_finer_25 : decode cX8_finer 25 = .ok (.ireturn, 1) := by decide +kernel
theorem dX8_finer_26 : decode cX8_finer 26 = .ok (.iconst 0, 1) := by decide +kernel
theorem dX8_finer_27 : decode cX8_finer 27 = .ok (.istore_n 3, 1) := by decide +kernel
theorem dX8_finer_28 : decode cX8_finer 28 = .ok (.iload_n 3, 1) := by decide +kernel
theorem dX8_finer_29 : decode cX8_finer 29 = .ok (.aload_n 0, 1) := by decide +kernel
theorem dX8_finer_30 : decode cX8_finer 30 = .ok (.getfield 259, 3) := by decide +kernel
theorem dX8_finer_33 : decode cX8_finer 33 = .ok (.if_icmp .ge 21, 3) := by decide +kernel
theorem dX8_finer_36 : decode cX8_finer 36 = .ok (.aload_n 0, 1) := by decide +kernel
theorem dX8_finer_37 : decode cX8_finer 37 = .ok (.getfield 102, 3) := by decide +kernel
theorem dX8_finer_40 : decode cX8_finer 40 = .ok (.iload_n 3, 1) := by decide +kernel
theorem dX8_finer_41 : decode cX8_finer 41 = .ok (.aload_n 0, 1) := by decide +kernel
theorem dX8_finer_42 : decode cX8_finer 42 = .ok (.getfield 22, 3) := by decide +kernel
theorem dX8_finer_45 : decode cX8_finer 45 = .ok (.iload_n 3, 1) := by decide +kernel
theorem dX8_finer_46 : decode cX8_finer 46 = .ok (.iaload, 1) := by decide +kernel
theorem dX8_finer_47 : decode cX8_finer 47 = .ok (.iastore, 1) := by decide +kernel
theorem dX8_finer_48 : decode cX8_finer 48 = .ok (.iinc 3 1, 3) := by decide +kernel
theorem dX8_finer_51 : decode cX8_finer 51 = .ok (.goto (-23), 3) := by decide +kernel
theorem dX8_finer_54 : decode cX8_finer 54 = .ok (.aload_n 0, 1) := by decide +kernel
theorem dX8_finer_55 : decode cX8_finer 55 = .ok (.iload_n 1, 1) := by decide +kernel
theorem dX8_finer_56 : decode cX8_finer 56 = .ok (.iload_n 2, 1) := by decide +kernel
theorem dX8_finer_57 : decode cX8_finer 57 = .ok (.invokevirtual 509, 3) := by decide +kernel
theorem dX8_finer_60 : decode cX8_finer 60 = .ok (.istore_n 3, 1) := by decide +kernel
theorem dX8_finer_61 : decode cX8_finer 61 = .ok (.iconst 0, 1) := by decide +kernel
theorem dX8_finer_62 : decode cX8_finer 62 = .ok (.istore 4, 2) := by decide +kernel
theorem dX8_finer_64 : decode cX8_finer 64 = .ok (.iload 4, 2) := by decide +kernel
theorem dX8_finer_66 : decode cX8_finer 66 = .ok (.aload_n 0, 1) := by decide +kernel
theorem dX8_finer_67 : decode cX8_finer 67 = .ok (.getfield 259, 3) := by decide +kernel
theorem dX8_finer_70 : decode cX8_finer 70 = .ok (.if_icmp .ge 23, 3) := by decide +kernel
theorem dX8_finer_73 : decode cX8_finer 73 = .ok (.aload_n 0, 1) := by decide +kernel
theorem dX8_finer_74 : decode cX8_finer 74 = .ok (.getfield 22, 3) := by decide +kernel
theorem dX8_finer_77 : decode cX8_finer 77 = .ok (.iload 4, 2) := by decide +kernel
theorem dX8_finer_79 : decode cX8_finer 79 = .ok (.aload_n 0, 1) := by decide +kernel
theorem dX8_finer_80 : decode cX8_finer 80 = .ok (.getfield 102, 3) := by decide +kernel
theorem dX8_finer_83 : decode cX8_finer 83 = .ok (.iload 4, 2) := by decide +kernel
theorem dX8_finer_85 : decode cX8_finer 85 = .ok (.iaload, 1) := by decide +kernel
theorem dX8_finer_86 : decode cX8_finer 86 = .ok (.iastore, 1) := by decide +kernel
theorem dX8_finer_87 : decode cX8_finer 87 = .ok (.iinc 4 1, 3) := by decide +kernel
theorem dX8_finer_90 : decode cX8_finer 90 = .ok (.goto (-26), 3) := by decide +kernel
theorem dX8_finer_93 : decode cX8_finer 93 = .ok (.iload_n 3, 1) := by decide +kernel
theorem dX8_finer_94 : decode cX8_finer 94 = .ok (.ireturn, 1) := by decide +kernel
theorem dX8_grid_0 : decode cX8_grid 0 = .ok (.aload_n 0, 1) := by decide +kernel
theorem dX8_grid_1 : decode cX8_grid 1 = .ok (.aload_n 0, 1) := by decide +kernel
theorem dX8_grid_2 : decode cX8_grid 2 = .ok (.iload_n 1, 1) := by decide +kernel
theorem dX8_grid_3 : decode cX8_grid 3 = .ok (.invokevirtual 316, 3) := by decide +kernel
theorem dX8_grid_6 : decode cX8_grid 6 = .ok (.iload_n 2, 1) := by decide +kernel
theorem dX8_grid_7 : decode cX8_grid 7 = .ok (.i2l, 1) := by decide +kernel
theorem dX8_grid_8 : decode cX8_grid 8 = .ok (.lconst 0, 1) := by decide +kernel
theorem dX8_grid_9 : decode cX8_grid 9 = .ok (.ldc2_w 230, 3) := by decide +kernel
theorem dX8_grid_12 : decode cX8_grid 12 = .ok (.invokestatic 140, 3) := by decide +kernel
theorem dX8_grid_15 : decode cX8_grid 15 = .ok (.invokestatic 346, 3) := by decide +kernel
theorem dX8_grid_18 : decode cX8_grid 18 = .ok (.invokevirtual 269, 3) := by decide +kernel
theorem dX8_grid_21 : decode cX8_grid 21 = .ok (.ifCond .eq 5, 3) := by decide +kernel
theorem dX8_grid_24 : decode cX8_grid 24 = .ok (.iconst (-1), 1) := by decide +kernel
theorem dX8_grid_25 : decode cX8_grid 25 = .ok (.ireturn, 1) := by decide +kernel
theorem dX8_grid_26 : decode cX8_grid 26 = .ok (.aload_n 0, 1) := by decide +kernel
theorem dX8_grid_27 : decode cX8_grid 27 = .ok (.getfield 22, 3) := by decide +kernel
theorem dX8_grid_30 : decode cX8_grid 30 = .ok (.iload_n 1, 1) := by decide +kernel
theorem dX8_grid_31 : decode cX8_grid 31 = .ok (.iaload, 1) := by decide +kernel
theorem dX8_grid_32 : decode cX8_grid 32 = .ok (.istore_n 3, 1) := by decide +kernel
theorem dX8_grid_33 : decode cX8_grid 33 = .ok (.aload_n 0, 1) := by decide +kernel
theorem dX8_grid_34 : decode cX8_grid 34 = .ok (.getfield 22, 3) := by decide +kernel
theorem dX8_grid_37 : decode cX8_grid 37 = .ok (.iload_n 1, 1) := by decide +kernel
theorem dX8_grid_38 : decode cX8_grid 38 = .ok (.iload_n 2, 1) := by decide +kernel
theorem dX8_grid_39 : decode cX8_grid 39 = .ok (.iastore, 1) := by decide +kernel
theorem dX8_grid_40 : decode cX8_grid 40 = .ok (.aload_n 0, 1) := by decide +kernel
theorem dX8_grid_41 : decode cX8_grid 41 = .ok (.iconst 0, 1) := by decide +kernel
theorem dX8_grid_42 : decode cX8_grid 42 = .ok (.aload_n 0, 1) := by decide +kernel
theorem dX8_grid_43 : decode cX8_grid 43 = .ok (.getfield 259, 3) := by decide +kernel
theorem dX8_grid_46 : decode cX8_grid 46 = .ok (.invokevirtual 232, 3) := by decide +kernel
theorem dX8_grid_49 : decode cX8_grid 49 = .ok (.ifCond .ne 16, 3) := by decide +kernel
theorem dX8_grid_52 : decode cX8_grid 52 = .ok (.aload_n 0, 1) := by decide +kernel
theorem dX8_grid_53 : decode cX8_grid 53 = .ok (.getfield 22, 3) := by decide +kernel
theorem dX8_grid_56 : decode cX8_grid 56 = .ok (.iload_n 1, 1) := by decide +kernel
theorem dX8_grid_57 : decode cX8_grid 57 = .ok (.iload_n 3, 1) := by decide +kernel
theorem dX8_grid_58 : decode cX8_grid 58 = .ok (.iastore, 1) := by decide +kernel
theorem dX8_grid_59 : decode cX8_grid 59 = .ok (.aload_n 0, 1) := by decide +kernel
theorem dX8_grid_60 : decode cX8_grid 60 = .ok (.iconst 5, 1) := by decide +kernel
theorem dX8_grid_61 : decode cX8_grid 61 = .ok (.invokevirtual 278, 3) := by decide +kernel
theorem dX8_grid_64 : decode cX8_grid 64 = .ok (.ireturn, 1) := by decide +kernel
theorem dX8_grid_65 : decode cX8_grid 65 = .ok (.iload_n 3, 1) := by decide +kernel
theorem dX8_grid_66 : decode cX8_grid 66 = .ok (.ireturn, 1) := by decide +kernel
theorem dX8_range_0 : decode cX8_range 0 = .ok (.iload_n 2, 1) := by decide +kernel
theorem dX8_range_1 : decode cX8_range 1 = .ok (.i2l, 1) := by decide +kernel
theorem dX8_range_2 : decode cX8_range 2 = .ok (.ldc2_w 512, 3) := by decide +kernel
theorem dX8_range_5 : decode cX8_range 5 = .ok (.ldc2_w 514, 3) := by decide +kernel
theorem dX8_range_8 : decode cX8_range 8 = .ok (.invokestatic 140, 3) := by decide +kernel
theorem dX8_range_11 : decode cX8_range 11 = .ok (.ifCond .eq 28, 3) := by decide +kernel
theorem dX8_range_14 : decode cX8_range 14 = .ok (.iload_n 3, 1) := by decide +kernel
theorem dX8_range_15 : decode cX8_range 15 = .ok (.i2l, 1) := by decide +kernel
theorem dX8_range_16 : decode cX8_range 16 = .ok (.iload_n 2, 1) := by decide +kernel
theorem dX8_range_17 : decode cX8_range 17 = .ok (.i2l, 1) := by decide +kernel
theorem dX8_range_18 : decode cX8_range 18 = .ok (.ldc2_w 514, 3) := by decide +kernel
theorem dX8_range_21 : decode cX8_range 21 = .ok (.invokestatic 140, 3) := by decide +kernel
theorem dX8_range_24 : decode cX8_range 24 = .ok (.ifCond .eq 15, 3) := by decide +kernel
theorem dX8_range_27 : decode cX8_range 27 = .ok (.iload_n 3, 1) := by decide +kernel
theorem dX8_range_28 : decode cX8_range 28 = .ok (.iload_n 2, 1) := by decide +kernel
theorem dX8_range_29 : decode cX8_range 29 = .ok (.isub, 1) := by decide +kernel
theorem dX8_range_30 : decode cX8_range 30 = .ok (.iconst 2, 1) := by decide +kernel
theorem dX8_range_31 : decode cX8_range 31 = .ok (.irem, 1) := by decide +kernel
theorem dX8_range_32 : decode cX8_range 32 = .ok (.ifCond .ne 7, 3) := by decide +kernel
theorem dX8_range_35 : decode cX8_range 35 = .ok (.iconst 1, 1) := by decide +kernel
theorem dX8_range_36 : decode cX8_range 36 = .ok (.goto 4, 3) := by decide +kernel
theorem dX8_range_39 : decode cX8_range 39 = .ok (.iconst 0, 1) := by decide +kernel
theorem dX8_range_40 : decode cX8_range 40 = .ok (.istore 4, 2) := by decide +kernel
theorem dX8_range_42 : decode cX8_range 42 = .ok (.aload_n 0, 1) := by decide +kernel
theorem dX8_range_43 : decode cX8_range 43 = .ok (.aload_n 0, 1) := by decide +kernel
theorem dX8_range_44 : decode cX8_range 44 = .ok (.iload_n 1, 1) := by decide +kernel
theorem dX8_range_45 : decode cX8_range 45 = .ok (.invokevirtual 343, 3) := by decide +kernel
theorem dX8_range_48 : decode cX8_range 48 = .ok (.iload 4, 2) := by decide +kernel
theorem dX8_range_50 : decode cX8_range 50 = .ok (.invokestatic 346, 3) := by decide +kernel
theorem dX8_range_53 : decode cX8_range 53 = .ok (.invokevirtual 269, 3) := by decide +kernel
theorem dX8_range_56 : decode cX8_range 56 = .ok (.ifCond .eq 5, 3) := by decide +kernel
theorem dX8_range_59 : decode cX8_range 59 = .ok (.iconst 0, 1) := by decide +kernel
theorem dX8_range_60 : decode cX8_range 60 = .ok (.ireturn, 1) := by decide +kernel
theorem dX8_range_61 : decode cX8_range 61 = .ok (.aload_n 0, 1) := by decide +kernel
theorem dX8_range_62 : decode cX8_range 62 = .ok (.getfield 25, 3) := by decide +kernel
theorem dX8_range_65 : decode cX8_range 65 = .ok (.iload_n 1, 1) := by decide +kernel
theorem dX8_range_66 : decode cX8_range 66 = .ok (.iaload, 1) := by decide +kernel
theorem dX8_range_67 : decode cX8_range 67 = .ok (.istore 5, 2) := by decide +kernel
theorem dX8_range_69 : decode cX8_range 69 = .ok (.aload_n 0, 1) := by decide +kernel
theorem dX8_range_70 : decode cX8_range 70 = .ok (.getfield 28, 3) := by decide +kernel
theorem dX8_range_73 : decode cX8_range 73 = .ok (.iload_n 1, 1) := by decide +kernel
theorem dX8_range_74 : decode cX8_range 74 = .ok (.iaload, 1) := by decide +kernel
theorem dX8_range_75 : decode cX8_range 75 = .ok (.istore 6, 2) := by decide +kernel
theorem dX8_range_77 : decode cX8_range 77 = .ok (.aload_n 0, 1) := by decide +kernel
theorem dX8_range_78 : decode cX8_range 78 = .ok (.getfield 25, 3) := by decide +kernel
theorem dX8_range_81 : decode cX8_range 81 = .ok (.iload_n 1, 1) := by decide +kernel
theorem dX8_range_82 : decode cX8_range 82 = .ok (.iload_n 2, 1) := by decide +kernel
theorem dX8_range_83 : decode cX8_range 83 = .ok (.iastore, 1) := by decide +kernel
theorem dX8_range_84 : decode cX8_range 84 = .ok (.aload_n 0, 1) := by decide +kernel
theorem dX8_range_85 : decode cX8_range 85 = .ok (.getfield 28, 3) := by decide +kernel
theorem dX8_range_88 : decode cX8_range 88 = .ok (.iload_n 1, 1) := by decide +kernel
theorem dX8_range_89 : decode cX8_range 89 = .ok (.iload_n 3, 1) := by decide +kernel
theorem dX8_range_90 : decode cX8_range 90 = .ok (.iastore, 1) := by decide +kernel
theorem dX8_range_91 : decode cX8_range 91 = .ok (.aload_n 0, 1) := by decide +kernel
theorem dX8_range_92 : decode cX8_range 92 = .ok (.iconst 0, 1) := by decide +kernel
theorem dX8_range_93 : decode cX8_range 93 = .ok (.aload_n 0, 1) := by decide +kernel
theorem dX8_range_94 : decode cX8_range 94 = .ok (.getfield 259, 3) := by decide +kernel
theorem dX8_range_97 : decode cX8_range 97 = .ok (.invokevirtual 232, 3) := by decide +kernel
theorem dX8_range_100 : decode cX8_range 100 = .ok (.ifCond .ne 26, 3) := by decide +kernel
theorem dX8_range_103 : decode cX8_range 103 = .ok (.aload_n 0, 1) := by decide +kernel
theorem dX8_range_104 : decode cX8_range 104 = .ok (.getfield 25, 3) := by decide +kernel
theorem dX8_range_107 : decode cX8_range 107 = .ok (.iload_n 1, 1) := by decide +kernel
theorem dX8_range_108 : decode cX8_range 108 = .ok (.iload 5, 2) := by decide +kernel
theorem dX8_range_110 : decode cX8_range 110 = .ok (.iastore, 1) := by decide +kernel
theorem dX8_range_111 : decode cX8_range 111 = .ok (.aload_n 0, 1) := by decide +kernel
theorem dX8_range_112 : decode cX8_range 112 = .ok (.getfield 28, 3) := by decide +kernel
theorem dX8_range_115 : decode cX8_range 115 = .ok (.iload_n 1, 1) := by decide +kernel
theorem dX8_range_116 : decode cX8_range 116 = .ok (.iload 6, 2) := by decide +kernel
theorem dX8_range_118 : decode cX8_range 118 = .ok (.iastore, 1) := by decide +kernel
theorem dX8_range_119 : decode cX8_range 119 = .ok (.aload_n 0, 1) := by decide +kernel
theorem dX8_range_120 : decode cX8_range 120 = .ok (.iconst 5, 1) := by decide +kernel
theorem dX8_range_121 : decode cX8_range 121 = .ok (.putfield 108, 3) := by decide +kernel
theorem dX8_range_124 : decode cX8_range 124 = .ok (.iconst 0, 1) := by decide +kernel
theorem dX8_range_125 : decode cX8_range 125 = .ok (.ireturn, 1) := by decide +kernel
theorem dX8_range_126 : decode cX8_range 126 = .ok (.aload_n 0, 1) := by decide +kernel
theorem dX8_range_127 : decode cX8_range 127 = .ok (.getfield 37, 3) := by decide +kernel
theorem dX8_range_130 : decode cX8_range 130 = .ok (.iload_n 1, 1) := by decide +kernel
theorem dX8_range_131 : decode cX8_range 131 = .ok (.iload_n 2, 1) := by decide +kernel
theorem dX8_range_132 : decode cX8_range 132 = .ok (.iastore, 1) := by decide +kernel
theorem dX8_range_133 : decode cX8_range 133 = .ok (.iconst 1, 1) := by decide +kernel
theorem dX8_range_134 : decode cX8_range 134 = .ok (.ireturn, 1) := by decide +kernel
theorem dX8_doubtful_0 : decode cX8_doubtful 0 = .ok (.aload_n 0, 1) := by decide +kernel
theorem dX8_doubtful_1 : decode cX8_doubtful 1 = .ok (.iconst 0, 1) := by decide +kernel
theorem dX8_doubtful_2 : decode cX8_doubtful 2 = .ok (.putfield 105, 3) := by decide +kernel
theorem dX8_doubtful_5 : decode cX8_doubtful 5 = .ok (.aload_n 0, 1) := by decide +kernel
theorem dX8_doubtful_6 : decode cX8_doubtful 6 = .ok (.getfield 281, 3) := by decide +kernel
theorem dX8_doubtful_9 : decode cX8_doubtful 9 = .ok (.ifCond .eq 7, 3) := by decide +kernel
theorem dX8_doubtful_12 : decode cX8_doubtful 12 = .ok (.aload_n 0, 1) := by decide +kernel
theorem dX8_doubtful_13 : decode cX8_doubtful 13 = .ok (.invokevirtual 299, 3) := by decide +kernel
theorem dX8_doubtful_16 : decode cX8_doubtful 16 = .ok (.iconst 0, 1) := by decide +kernel
theorem dX8_doubtful_17 : decode cX8_doubtful 17 = .ok (.istore_n 2, 1) := by decide +kernel
theorem dX8_doubtful_18 : decode cX8_doubtful 18 = .ok (.iconst 0, 1) := by decide +kernel
theorem dX8_doubtful_19 : decode cX8_doubtful 19 = .ok (.istore_n 3, 1) := by decide +kernel
theorem dX8_doubtful_20 : decode cX8_doubtful 20 = .ok (.iload_n 3, 1) := by decide +kernel
theorem dX8_doubtful_21 : decode cX8_doubtful 21 = .ok (.aload_n 0, 1) := by decide +kernel
theorem dX8_doubtful_22 : decode cX8_doubtful 22 = .ok (.getfield 259, 3) := by decide +kernel
theorem dX8_doubtful_25 : decode cX8_doubtful 25 = .ok (.if_icmp .ge 40, 3) := by decide +kernel
theorem dX8_doubtful_28 : decode cX8_doubtful 28 = .ok (.aload_n 0, 1) := by decide +kernel
theorem dX8_doubtful_29 : decode cX8_doubtful 29 = .ok (.getfield 19, 3) := by decide +kernel
theorem dX8_doubtful_32 : decode cX8_doubtful 32 = .ok (.iload_n 3, 1) := by decide +kernel
theorem dX8_doubtful_33 : decode cX8_doubtful 33 = .ok (.iaload, 1) := by decide +kernel
theorem dX8_doubtful_34 : decode cX8_doubtful 34 = .ok (.iconst 3, 1) := by decide +kernel
theorem dX8_doubtful_35 : decode cX8_doubtful 35 = .ok (.if_icmp .ne 24, 3) := by decide +kernel
theorem dX8_doubtful_38 : decode cX8_doubtful 38 = .ok (.aload_n 0, 1) := by decide +kernel
theorem dX8_doubtful_39 : decode cX8_doubtful 39 = .ok (.getfield 80, 3) := by decide +kernel
theorem dX8_doubtful_42 : decode cX8_doubtful 42 = .ok (.iload_n 3, 1) := by decide +kernel
theorem dX8_doubtful_43 : decode cX8_doubtful 43 = .ok (.iaload, 1) := by decide +kernel
theorem dX8_doubtful_44 : decode cX8_doubtful 44 = .ok (.bipush 16, 2) := by decide +kernel
theorem dX8_doubtful_46 : decode cX8_doubtful 46 = .ok (.if_icmp .lt 13, 3) := by decide +kernel
theorem dX8_doubtful_49 : decode cX8_doubtful 49 = .ok (.iload_n 2, 1) := by decide +kernel
theorem dX8_doubtful_50 : decode cX8_doubtful 50 = .ok (.iload_n 1, 1) := by decide +kernel
theorem dX8_doubtful_51 : decode cX8_doubtful 51 = .ok (.if_icmp .ne 5, 3) := by decide +kernel
theorem dX8_doubtful_54 : decode cX8_doubtful 54 = .ok (.iload_n 3, 1) := by decide +kernel
theorem dX8_doubtful_55 : decode cX8_doubtful 55 = .ok (.ireturn, 1) := by decide +kernel
theorem dX8_doubtful_56 : decode cX8_doubtful 56 = .ok (.iinc 2 1, 3) := by decide +kernel
theorem dX8_doubtful_59 : decode cX8_doubtful 59 = .ok (.iinc 3 1, 3) := by decide +kernel
theorem dX8_doubtful_62 : decode cX8_doubtful 62 = .ok (.goto (-42), 3) := by decide +kernel
theorem dX8_doubtful_65 : decode cX8_doubtful 65 = .ok (.aload_n 0, 1) := by decide +kernel
theorem dX8_doubtful_66 : decode cX8_doubtful 66 = .ok (.iconst 1, 1) := by decide +kernel
theorem dX8_doubtful_67 : decode cX8_doubtful 67 = .ok (.putfield 105, 3) := by decide +kernel
theorem dX8_doubtful_70 : decode cX8_doubtful 70 = .ok (.iconst 0, 1) := by decide +kernel
theorem dX8_doubtful_71 : decode cX8_doubtful 71 = .ok (.ireturn, 1) := by decide +kernel
theorem dX8_size_0 : decode cX8_size 0 = .ok (.aload_n 0, 1) := by decide +kernel
theorem dX8_size_1 : decode cX8_size 1 = .ok (.iconst 0, 1) := by decide +kernel
theorem dX8_size_2 : decode cX8_size 2 = .ok (.putfield 105, 3) := by decide +kernel
theorem dX8_size_5 : decode cX8_size 5 = .ok (.aload_n 0, 1) := by decide +kernel
theorem dX8_size_6 : decode cX8_size 6 = .ok (.getfield 113, 3) := by decide +kernel
theorem dX8_size_9 : decode cX8_size 9 = .ok (.ireturn, 1) := by decide +kernel
theorem dX8_trouble_0 : decode cX8_trouble 0 = .ok (.aload_n 0, 1) := by decide +kernel
theorem dX8_trouble_1 : decode cX8_trouble 1 = .ok (.iconst 0, 1) := by decide +kernel
theorem dX8_trouble_2 : decode cX8_trouble 2 = .ok (.putfield 105, 3) := by decide +kernel
theorem dX8_trouble_5 : decode cX8_trouble 5 = .ok (.aload_n 0, 1) := by decide +kernel
theorem dX8_trouble_6 : decode cX8_trouble 6 = .ok (.getfield 108, 3) := by decide +kernel
theorem dX8_trouble_9 : decode cX8_trouble 9 = .ok (.ireturn, 1) := by decide +kernel
theorem dJ9_floorDiv_f86c9_0 : decode cJ9_floorDiv_f86c9 0 = .ok (.lload_n 0, 1) := by decide +kernel
theorem dJ9_floorDiv_f86c9_1 : decode cJ9_floorDiv_f86c9 1 = .ok (.lload_n 2, 1) := by decide +kernel
theorem dJ9_floorDiv_f86c9_2 : decode cJ9_floorDiv_f86c9 2 = .ok (.ldiv, 1) := by decide +kernel
theorem dJ9_floorDiv_f86c9_3 : decode cJ9_floorDiv_f86c9 3 = .ok (.lstore 4, 2) := by decide +kernel
theorem dJ9_floorDiv_f86c9_5 : decode cJ9_floorDiv_f86c9 5 = .ok (.lload_n 0, 1) := by decide +kernel
theorem dJ9_floorDiv_f86c9_6 : decode cJ9_floorDiv_f86c9 6 = .ok (.lload_n 2, 1) := by decide +kernel
theorem dJ9_floorDiv_f86c9_7 : decode cJ9_floorDiv_f86c9 7 = .ok (.lxor, 1) := by decide +kernel
theorem dJ9_floorDiv_f86c9_8 : decode cJ9_floorDiv_f86c9 8 = .ok (.lconst 0, 1) := by decide +kernel
theorem dJ9_floorDiv_f86c9_9 : decode cJ9_floorDiv_f86c9 9 = .ok (.lcmp, 1) := by decide +kernel
theorem dJ9_floorDiv_f86c9_10 : decode cJ9_floorDiv_f86c9 10 = .ok (.ifCond .ge 17, 3) := by decide +kernel
theorem dJ9_floorDiv_f86c9_13 : decode cJ9_floorDiv_f86c9 13 = .ok (.lload 4, 2) := by decide +kernel
theorem dJ9_floorDiv_f86c9_15 : decode cJ9_floorDiv_f86c9 15 = .ok (.lload_n 2, 1) := by decide +kernel
theorem dJ9_floorDiv_f86c9_16 : decode cJ9_floorDiv_f86c9 16 = .ok (.lmul, 1) := by decide +kernel
theorem dJ9_floorDiv_f86c9_17 : decode cJ9_floorDiv_f86c9 17 = .ok (.lload_n 0, 1) := by decide +kernel
theorem dJ9_floorDiv_f86c9_18 : decode cJ9_floorDiv_f86c9 18 = .ok (.lcmp, 1) := by decide +kernel
theorem dJ9_floorDiv_f86c9_19 : decode cJ9_floorDiv_f86c9 19 = .ok (.ifCond .eq 8, 3) := by decide +kernel
theorem dJ9_floorDiv_f86c9_22 : decode cJ9_floorDiv_f86c9 22 = .ok (.lload 4, 2) := by decide +kernel
theorem dJ9_floorDiv_f86c9_24 : decode cJ9_floorDiv_f86c9 24 = .ok (.lconst 1, 1) := by decide +kernel
theorem dJ9_floorDiv_f86c9_25 : decode cJ9_floorDiv_f86c9 25 = .ok (.lsub, 1) := by decide +kernel
theorem dJ9_floorDiv_f86c9_26 : decode cJ9_floorDiv_f86c9 26 = .ok (.lreturn, 1) := by decide +kernel
theorem dJ9_floorDiv_f86c9_27 : decode cJ9_floorDiv_f86c9 27 = .ok (.lload 4, 2) := by decide +kernel
theorem dJ9_floorDiv_f86c9_29 : decode cJ9_floorDiv_f86c9 29 = .ok (.lreturn, 1) := by decide +kernel
theorem dJ9_abs_0f7a4_0 : decode cJ9_abs_0f7a4 0 = .ok (.iload_n 0, 1) := by decide +kernel
theorem dJ9_abs_0f7a4_1 : decode cJ9_abs_0f7a4 1 = .ok (.ifCond .ge 8, 3) := by decide +kernel
theorem dJ9_abs_0f7a4_4 : decode cJ9_abs_0f7a4 4 = .ok (.iload_n 0, 1) := by decide +kernel
theorem dJ9_abs_0f7a4_5 : decode cJ9_abs_0f7a4 5 = .ok (.ineg, 1) := by decide +kernel
theorem dJ9_abs_0f7a4_6 : decode cJ9_abs_0f7a4 6 = .ok (.goto 4, 3) := by decide +kernel
theorem dJ9_abs_0f7a4_9 : decode cJ9_abs_0f7a4 9 = .ok (.iload_n 0, 1) := by decide +kernel
theorem dJ9_abs_0f7a4_10 : decode cJ9_abs_0f7a4 10 = .ok (.ireturn, 1) := by decide +kernel
theorem dJ9_abs_067f4_0 : decode cJ9_abs_067f4 0 = .ok (.lload_n 0, 1) := by decide +kernel
theorem dJ9_abs_067f4_1 : decode cJ9_abs_067f4 1 = .ok (.lconst 0, 1) := by decide +kernel
theorem dJ9_abs_067f4_2 : decode cJ9_abs_067f4 2 = .ok (.lcmp, 1) := by decide +kernel
theorem dJ9_abs_067f4_3 : decode cJ9_abs_067f4 3 = .ok (.ifCond .ge 8, 3) := by decide +kernel
theorem dJ9_abs_067f4_6 : decode cJ9_abs_067f4 6 = .ok (.lload_n 0, 1) := by decide +kernel
theorem dJ9_abs_067f4_7 : decode cJ9_abs_067f4 7 = .ok (.lneg, 1) := by decide +kernel
theorem dJ9_abs_067f4_8 : decode cJ9_abs_067f4 8 = .ok (.goto 4, 3) := by decide +kernel
theorem dJ9_abs_067f4_11 : decode cJ9_abs_067f4 11 = .ok (.lload_n 0, 1) := by decide +kernel
theorem dJ9_abs_067f4_12 : decode cJ9_abs_067f4 12 = .ok (.lreturn, 1) := by decide +kernel
theorem dJ9_max_7cf53_0 : decode cJ9_max_7cf53 0 = .ok (.iload_n 0, 1) := by decide +kernel
theorem dJ9_max_7cf53_1 : decode cJ9_max_7cf53 1 = .ok (.iload_n 1, 1) := by decide +kernel
theorem dJ9_max_7cf53_2 : decode cJ9_max_7cf53 2 = .ok (.if_icmp .lt 7, 3) := by decide +kernel
theorem dJ9_max_7cf53_5 : decode cJ9_max_7cf53 5 = .ok (.iload_n 0, 1) := by decide +kernel
theorem dJ9_max_7cf53_6 : decode cJ9_max_7cf53 6 = .ok (.goto 4, 3) := by decide +kernel
theorem dJ9_max_7cf53_9 : decode cJ9_max_7cf53 9 = .ok (.iload_n 1, 1) := by decide +kernel
theorem dJ9_max_7cf53_10 : decode cJ9_max_7cf53 10 = .ok (.ireturn, 1) := by decide +kernel
theorem dJ9_max_f86c9_0 : decode cJ9_max_f86c9 0 = .ok (.lload_n 0, 1) := by decide +kernel
theorem dJ9_max_f86c9_1 : decode cJ9_max_f86c9 1 = .ok (.lload_n 2, 1) := by decide +kernel
theorem dJ9_max_f86c9_2 : decode cJ9_max_f86c9 2 = .ok (.lcmp, 1) := by decide +kernel
theorem dJ9_max_f86c9_3 : decode cJ9_max_f86c9 3 = .ok (.ifCond .lt 7, 3) := by decide +kernel
theorem dJ9_max_f86c9_6 : decode cJ9_max_f86c9 6 = .ok (.lload_n 0, 1) := by decide +kernel
theorem dJ9_max_f86c9_7 : decode cJ9_max_f86c9 7 = .ok (.goto 4, 3) := by decide +kernel
theorem dJ9_max_f86c9_10 : decode cJ9_max_f86c9 10 = .ok (.lload_n 2, 1) := by decide +kernel
theorem dJ9_max_f86c9_11 : decode cJ9_max_f86c9 11 = .ok (.lreturn, 1) := by decide +kernel
theorem dJ9_min_7cf53_0 : decode cJ9_min_7cf53 0 = .ok (.iload_n 0, 1) := by decide +kernel
theorem dJ9_min_7cf53_1 : decode cJ9_min_7cf53 1 = .ok (.iload_n 1, 1) := by decide +kernel
theorem dJ9_min_7cf53_2 : decode cJ9_min_7cf53 2 = .ok (.if_icmp .gt 7, 3) := by decide +kernel
theorem dJ9_min_7cf53_5 : decode cJ9_min_7cf53 5 = .ok (.iload_n 0, 1) := by decide +kernel
theorem dJ9_min_7cf53_6 : decode cJ9_min_7cf53 6 = .ok (.goto 4, 3) := by decide +kernel
theorem dJ9_min_7cf53_9 : decode cJ9_min_7cf53 9 = .ok (.iload_n 1, 1) := by decide +kernel
theorem dJ9_min_7cf53_10 : decode cJ9_min_7cf53 10 = .ok (.ireturn, 1) := by decide +kernel
theorem dJ9_min_f86c9_0 : decode cJ9_min_f86c9 0 = .ok (.lload_n 0, 1) := by decide +kernel
theorem dJ9_min_f86c9_1 : decode cJ9_min_f86c9 1 = .ok (.lload_n 2, 1) := by decide +kernel
theorem dJ9_min_f86c9_2 : decode cJ9_min_f86c9 2 = .ok (.lcmp, 1) := by decide +kernel
theorem dJ9_min_f86c9_3 : decode cJ9_min_f86c9 3 = .ok (.ifCond .gt 7, 3) := by decide +kernel
theorem dJ9_min_f86c9_6 : decode cJ9_min_f86c9 6 = .ok (.lload_n 0, 1) := by decide +kernel
theorem dJ9_min_f86c9_7 : decode cJ9_min_f86c9 7 = .ok (.goto 4, 3) := by decide +kernel
theorem dJ9_min_f86c9_10 : decode cJ9_min_f86c9 10 = .ok (.lload_n 2, 1) := by decide +kernel
theorem dJ9_min_f86c9_11 : decode cJ9_min_f86c9 11 = .ok (.lreturn, 1) := by decide +kernel
theorem dJ0_length_8abf5_0 : decode cJ0_length_8abf5 0 = .ok (.aload_n 0, 1) := by decide +kernel
theorem dJ0_length_8abf5_1 : decode cJ0_length_8abf5 1 = .ok (.getfield 9, 3) := by decide +kernel
theorem dJ0_length_8abf5_4 : decode cJ0_length_8abf5 4 = .ok (.arraylength, 1) := by decide +kernel
theorem dJ0_length_8abf5_5 : decode cJ0_length_8abf5 5 = .ok (.aload_n 0, 1) := by decide +kernel
theorem dJ0_length_8abf5_6 : decode cJ0_length_8abf5 6 = .ok (.invokevirtual 335, 3) := by decide +kernel
theorem dJ0_length_8abf5_9 : decode cJ0_length_8abf5 9 = .ok (.ishr, 1) := by decide +kernel
theorem dJ0_length_8abf5_10 : decode cJ0_length_8abf5 10 = .ok (.ireturn, 1) := by decide +kernel
theorem dJ0_charAt_5068e_0 : decode cJ0_charAt_5068e 0 = .ok (.aload_n 0, 1) := by decide +kernel
theorem dJ0_charAt_5068e_1 : decode cJ0_charAt_5068e 1 = .ok (.invokevirtual 492, 3) := by decide +kernel
theorem dJ0_charAt_5068e_4 : decode cJ0_charAt_5068e 4 = .ok (.ifCond .eq 12, 3) := by decide +kernel
theorem dJ0_charAt_5068e_7 : decode cJ0_charAt_5068e 7 = .ok (.aload_n 0, 1) := by decide +kernel
theorem dJ0_charAt_5068e_8 : decode cJ0_charAt_5068e 8 = .ok (.getfield 9, 3) := by decide +kernel
theorem dJ0_charAt_5068e_11 : decode cJ0_charAt_5068e 11 = .ok (.iload_n 1, 1) := by decide +kernel
theorem dJ0_charAt_5068e_12 : decode cJ0_charAt_5068e 12 = .ok (.invokestatic 495, 3) := by decide +kernel
theorem dJ0_charAt_5068e_15 : decode cJ0_charAt_5068e 15 = .ok (.ireturn, 1) := by decide +kernel
theorem dJ0_charAt_5068e_16 : decode cJ0_charAt_5068e 16 = .ok (.aload_n 0, 1) := by decide +kernel
theorem dJ0_charAt_5068e_17 : decode cJ0_charAt_5068e 17 = .ok (.getfield 9, 3) := by decide +kernel
theorem dJ0_charAt_5068e_20 : decode cJ0_charAt_5068e 20 = .ok (.iload_n 1, 1) := by decide +kernel
theorem dJ0_charAt_5068e_21 : decode cJ0_charAt_5068e 21 = .ok (.invokestatic 498, 3) := by decide +kernel
theorem dJ0_charAt_5068e_24 : decode cJ0_charAt_5068e 24 = .ok (.ireturn, 1) := by decide +kernel
theorem dJ0_coder_7d493_0 : decode cJ0_coder_7d493 0 = .ok (.getstatic 38, 3) := by decide +kernel
theorem dJ0_coder_7d493_3 : decode cJ0_coder_7d493 3 = .ok (.ifCond .eq 10, 3) := by decide +kernel
theorem dJ0_coder_7d493_6 : decode cJ0_coder_7d493 6 = .ok (.aload_n 0, 1) := by decide +kernel
theorem dJ0_coder_7d493_7 : decode cJ0_coder_7d493 7 = .ok (.getfield 15, 3) := by decide +kernel
theorem dJ0_coder_7d493_10 : decode cJ0_coder_7d493 10 = .ok (.goto 4, 3) := by decide +kernel
theorem dJ0_coder_7d493_13 : decode cJ0_coder_7d493 13 = .ok (.iconst 1, 1) := by decide +kernel
theorem dJ0_coder_7d493_14 : decode cJ0_coder_7d493 14 = .ok (.ireturn, 1) := by decide +kernel
theorem dJ0_isLatin1_aae02_0 : decode cJ0_isLatin1_aae02 0 = .ok (.getstatic 38, 3) := by decide +kernel
theorem dJ0_isLatin1_aae02_3 : decode cJ0_isLatin1_aae02 3 = .ok (.ifCond .eq 14, 3) := by decide +kernel
theorem dJ0_isLatin1_aae02_6 : decode cJ0_isLatin1_aae02 6 = .ok (.aload_n 0, 1) := by decide +kernel
theorem dJ0_isLatin1_aae02_7 : decode cJ0_isLatin1_aae02 7 = .ok (.getfield 15, 3) := by decide +kernel
theorem dJ0_isLatin1_aae02_10 : decode cJ0_isLatin1_aae02 10 = .ok (.ifCond .ne 7, 3) := by decide +kernel
theorem dJ0_isLatin1_aae02_13 : decode cJ0_isLatin1_aae02 13 = .ok (.iconst 1, 1) := by decide +kernel
theorem dJ0_isLatin1_aae02_14 : decode cJ0_isLatin1_aae02 14 = .ok (.goto 4, 3) := by decide +kernel
theorem dJ0_isLatin1_aae02_17 : decode cJ0_isLatin1_aae02 17 = .ok (.iconst 0, 1) := by decide +kernel
theorem dJ0_isLatin1_aae02_18 : decode cJ0_isLatin1_aae02 18 = .ok (.ireturn, 1) := by decide +kernel
theorem dJ0_checkIndex_df160_0 : decode cJ0_checkIndex_df160 0 = .ok (.iload_n 0, 1) := by decide +kernel
theorem dJ0_checkIndex_df160_1 : decode cJ0_checkIndex_df160 1 = .ok (.iload_n 1, 1) := by decide +kernel
theorem dJ0_checkIndex_df160_2 : decode cJ0_checkIndex_df160 2 = .ok (.getstatic 1053, 3) := by decide +kernel
theorem dJ0_checkIndex_df160_5 : decode cJ0_checkIndex_df160 5 = .ok (.invokestatic 1059, 3) := by decide +kernel
theorem dJ0_checkIndex_df160_8 : decode cJ0_checkIndex_df160 8 = .ok (.pop, 1) := by decide +kernel
theorem dJ0_checkIndex_df160_9 : decode cJ0_checkIndex_df160 9 = .ok (.return_, 1) := by decide +kernel
theorem dJ1_charAt_3b067_0 : decode cJ1_charAt_3b067 0 = .ok (.iload_n 1, 1) := by decide +kernel
theorem dJ1_charAt_3b067_1 : decode cJ1_charAt_3b067 1 = .ok (.aload_n 0, 1) := by decide +kernel
theorem dJ1_charAt_3b067_2 : decode cJ1_charAt_3b067 2 = .ok (.arraylength, 1) := by decide +kernel
theorem dJ1_charAt_3b067_3 : decode cJ1_charAt_3b067 3 = .ok (.invokestatic 9, 3) := by decide +kernel
theorem dJ1_charAt_3b067_6 : decode cJ1_charAt_3b067 6 = .ok (.aload_n 0, 1) := by decide +kernel
theorem dJ1_charAt_3b067_7 : decode cJ1_charAt_3b067 7 = .ok (.iload_n 1, 1) := by decide +kernel
theorem dJ1_charAt_3b067_8 : decode cJ1_charAt_3b067 8 = .ok (.baload, 1) := by decide +kernel
theorem dJ1_charAt_3b067_9 : decode cJ1_charAt_3b067 9 = .ok (.sipush 255, 3) := by decide +kernel
theorem dJ1_charAt_3b067_12 : decode cJ1_charAt_3b067 12 = .ok (.iand, 1) := by decide +kernel
theorem dJ1_charAt_3b067_13 : decode cJ1_charAt_3b067 13 = .ok (.i2c, 1) := by decide +kernel
theorem dJ1_charAt_3b067_14 : decode cJ1_charAt_3b067 14 = .ok (.ireturn, 1) := by decide +kernel
theorem dJ2_getChar_3b067_0 : decode cJ2_getChar_3b067 0 = .ok (.getstatic 44, 3) := by decide +kernel
theorem dJ2_getChar_3b067_3 : decode cJ2_getChar_3b067 3 = .ok (.ifCond .ne 25, 3) := by decide +kernel
theorem dJ2_getChar_3b067_6 : decode cJ2_getChar_3b067 6 = .ok (.iload_n 1, 1) := by decide +kernel
theorem dJ2_getChar_3b067_7 : decode cJ2_getChar_3b067 7 = .ok (.ifCond .lt 11, 3) := by decide +kernel
theorem dJ2_getChar_3b067_10 : decode cJ2_getChar_3b067 10 = .ok (.iload_n 1, 1) := by decide +kernel
theorem dJ2_getChar_3b067_11 : decode cJ2_getChar_3b067 11 = .ok (.aload_n 0, 1) := by decide +kernel
theorem dJ2_getChar_3b067_12 : decode cJ2_getChar_3b067 12 = .ok (.invokestatic 48, 3) := by decide +kernel
theorem dJ2_getChar_3b067_15 : decode cJ2_getChar_3b067 15 = .ok (.if_icmp .lt 13, 3) := by decide +kernel
theorem dJ2_getChar_3b067_18 : decode cJ2_getChar_3b067 18 = .ok (.new 52, 3) := by decide +kernel
theorem dJ2_getChar_3b067_21 : decode cJ2_getChar_3b067 21 = .ok (.dup, 1) := by decide +kernel
theorem dJ2_getChar_3b067_22 : decode cJ2_getChar_3b067 22 = .ok (.ldc 54, 2) := by decide +kernel
theorem dJ2_getChar_3b067_24 : decode cJ2_getChar_3b067 24 = .ok (.invokespecial 56, 3) := by decide +kernel
theorem dJ2_getChar_3b067_27 : decode cJ2_getChar_3b067 27 = .ok (.athrow, 1) := by decide +kernel
theorem dJ2_getChar_3b067_28 : decode cJ2_getChar_3b067 28 = .ok (.iload_n 1, 1) := by decide +kernel
theorem dJ2_getChar_3b067_29 : decode cJ2_getChar_3b067 29 = .ok (.iconst 1, 1) := by decide +kernel
theorem dJ2_getChar_3b067_30 : decode cJ2_getChar_3b067 30 = .ok (.ishl, 1) := by decide +kernel
theorem dJ2_getChar_3b067_31 : decode cJ2_getChar_3b067 31 = .ok (.istore_n 1, 1) := by decide +kernel
theorem dJ2_getChar_3b067_32 : decode cJ2_getChar_3b067 32 = .ok (.aload_n 0, 1) := by decide +kernel
theorem dJ2_getChar_3b067_33 : decode cJ2_getChar_3b067 33 = .ok (.iload_n 1, 1) := by decide +kernel
theorem dJ2_getChar_3b067_34 : decode cJ2_getChar_3b067 34 = .ok (.iinc 1 1, 3) := by decide +kernel
theorem dJ2_getChar_3b067_37 : decode cJ2_getChar_3b067 37 = .ok (.baload, 1) := by decide +kernel
theorem dJ2_getChar_3b067_38 : decode cJ2_getChar_3b067 38 = .ok (.sipush 255, 3) := by decide +kernel
theorem dJ2_getChar_3b067_41 : decode cJ2_getChar_3b067 41 = .ok (.iand, 1) := by decide +kernel
theorem dJ2_getChar_3b067_42 : decode cJ2_getChar_3b067 42 = .ok (.getstatic 59, 3) := by decide +kernel
theorem dJ2_getChar_3b067_45 : decode cJ2_getChar_3b067 45 = .ok (.ishl, 1) := by decide +kernel
theorem dJ2_getChar_3b067_46 : decode cJ2_getChar_3b067 46 = .ok (.aload_n 0, 1) := by decide +kernel
theorem dJ2_getChar_3b067_47 : decode cJ2_getChar_3b067 47 = .ok (.iload_n 1, 1) := by decide +kernel
theorem dJ2_getChar_3b067_48 : decode cJ2_getChar_3b067 48 = .ok (.baload, 1) := by decide +kernel
theorem dJ2_getChar_3b067_49 : decode cJ2_getChar_3b067 49 = .ok (.sipush 255, 3) := by decide +kernel
theorem dJ2_getChar_3b067_52 : decode cJ2_getChar_3b067 52 = .ok (.iand, 1) := by decide +kernel
theorem dJ2_getChar_3b067_53 : decode cJ2_getChar_3b067 53 = .ok (.getstatic 63, 3) := by decide +kernel
theorem dJ2_getChar_3b067_56 : decode cJ2_getChar_3b067 56 = .ok (.ishl, 1) := by decide +kernel
theorem dJ2_getChar_3b067_57 : decode cJ2_getChar_3b067 57 = .ok (.ior, 1) := by decide +kernel
theorem dJ2_getChar_3b067_58 : decode cJ2_getChar_3b067 58 = .ok (.i2c, 1) := by decide +kernel
theorem dJ2_getChar_3b067_59 : decode cJ2_getChar_3b067 59 = .ok (.ireturn, 1) := by decide +kernel
theorem dJ2_length_9d52b_0 : decode cJ2_length_9d52b 0 = .ok (.aload_n 0, 1) := by decide +kernel
theorem dJ2_length_9d52b_1 : decode cJ2_length_9d52b 1 = .ok (.arraylength, 1) := by decide +kernel
theorem dJ2_length_9d52b_2 : decode cJ2_length_9d52b 2 = .ok (.iconst 1, 1) := by decide +kernel
theorem dJ2_length_9d52b_3 : decode cJ2_length_9d52b 3 = .ok (.ishr, 1) := by decide +kernel
theorem dJ2_length_9d52b_4 : decode cJ2_length_9d52b 4 = .ok (.ireturn, 1) := by decide +kernel
theorem dJ2_charAt_3b067_0 : decode cJ2_charAt_3b067 0 = .ok (.iload_n 1, 1) := by decide +kernel
theorem dJ2_charAt_3b067_1 : decode cJ2_charAt_3b067 1 = .ok (.aload_n 0, 1) := by decide +kernel
theorem dJ2_charAt_3b067_2 : decode cJ2_charAt_3b067 2 = .ok (.invokestatic 67, 3) := by decide +kernel
theorem dJ2_charAt_3b067_5 : decode cJ2_charAt_3b067 5 = .ok (.aload_n 0, 1) := by decide +kernel
theorem dJ2_charAt_3b067_6 : decode cJ2_charAt_3b067 6 = .ok (.iload_n 1, 1) := by decide +kernel
theorem dJ2_charAt_3b067_7 : decode cJ2_charAt_3b067 7 = .ok (.invokestatic 71, 3) := by decide +kernel
theorem dJ2_charAt_3b067_10 : decode cJ2_charAt_3b067 10 = .ok (.ireturn, 1) := by decide +kernel
theorem dJ2_checkIndex_2214a_0 : decode cJ2_checkIndex_2214a 0 = .ok (.iload_n 0, 1) := by decide +kernel
theorem dJ2_checkIndex_2214a_1 : decode cJ2_checkIndex_2214a 1 = .ok (.aload_n 1, 1) := by decide +kernel
theorem dJ2_checkIndex_2214a_2 : decode cJ2_checkIndex_2214a 2 = .ok (.invokestatic 48, 3) := by decide +kernel
theorem dJ2_checkIndex_2214a_5 : decode cJ2_checkIndex_2214a 5 = .ok (.invokestatic 414, 3) := by decide +kernel
theorem dJ2_checkIndex_2214a_8 : decode cJ2_checkIndex_2214a 8 = .ok (.return_, 1) := by decide +kernel
theorem dJ3_checkIndex_8e157_0 : decode cJ3_checkIndex_8e157 0 = .ok (.iload_n 0, 1) := by decide +kernel
theorem dJ3_checkIndex_8e157_1 : decode cJ3_checkIndex_8e157 1 = .ok (.ifCond .lt 8, 3) := by decide +kernel
theorem dJ3_checkIndex_8e157_4 : decode cJ3_checkIndex_8e157 4 = .ok (.iload_n 0, 1) := by decide +kernel
theorem dJ3_checkIndex_8e157_5 : decode cJ3_checkIndex_8e157 5 = .ok (.iload_n 1, 1) := by decide +kernel
theorem dJ3_checkIndex_8e157_6 : decode cJ3_checkIndex_8e157 6 = .ok (.if_icmp .lt 10, 3) := by decide +kernel
theorem dJ3_checkIndex_8e157_9 : decode cJ3_checkIndex_8e157 9 = .ok (.aload_n 2, 1) := by decide +kernel
theorem dJ3_checkIndex_8e157_10 : decode cJ3_checkIndex_8e157 10 = .ok (.iload_n 0, 1) := by decide +kernel
theorem dJ3_checkIndex_8e157_11 : decode cJ3_checkIndex_8e157 11 = .ok (.iload_n 1, 1) := by decide +kernel
theorem dJ3_checkIndex_8e157_12 : decode cJ3_checkIndex_8e157 12 = .ok (.invokestatic 95, 3) := by decide +kernel
theorem dJ3_checkIndex_8e157_15 : decode cJ3_checkIndex_8e157 15 = .ok (.athrow, 1) := by decide +kernel
theorem dJ3_checkIndex_8e157_16 : decode cJ3_checkIndex_8e157 16 = .ok (.iload_n 0, 1) := by decide +kernel
theorem dJ3_checkIndex_8e157_17 : decode cJ3_checkIndex_8e157 17 = .ok (.ireturn, 1) := by decide +kernel
theorem dL_doubtful_0 : decode cL_doubtful 0 = .ok (.aload_n 2, 1) := by decide +kernel
theorem dL_doubtful_1 : decode cL_doubtful 1 = .ok (.iconst 0, 1) := by decide +kernel
theorem dL_doubtful_2 : decode cL_doubtful 2 = .ok (.aload_n 0, 1) := by decide +kernel
theorem dL_doubtful_3 : decode cL_doubtful 3 = .ok (.iload_n 1, 1) := by decide +kernel
theorem dL_doubtful_4 : decode cL_doubtful 4 = .ok (.invokevirtual 7, 3) := by decide +kernel
theorem dL_doubtful_7 : decode cL_doubtful 7 = .ok (.i2l, 1) := by decide +kernel
theorem dL_doubtful_8 : decode cL_doubtful 8 = .ok (.lastore, 1) := by decide +kernel
theorem dL_doubtful_9 : decode cL_doubtful 9 = .ok (.goto 6, 3) := by decide +kernel
theorem dL_doubtful_12 : decode cL_doubtful 12 = .ok (.astore_n 3, 1) := by decide +kernel
theorem dL_doubtful_13 : decode cL_doubtful 13 = .ok (.iconst 1, 1) := by decide +kernel
theorem dL_doubtful_14 : decode cL_doubtful 14 = .ok (.ireturn, 1) := by decide +kernel
theorem dL_doubtful_15 : decode cL_doubtful 15 = .ok (.iconst 0, 1) := by decide +kernel
theorem dL_doubtful_16 : decode cL_doubtful 16 = .ok (.ireturn, 1) := by decide +kernel
theorem dL_law_0 : decode cL_law 0 = .ok (.new 8, 3) := by decide +kernel
theorem dL_law_3 : decode cL_law 3 = .ok (.dup, 1) := by decide +kernel
theorem dL_law_4 : decode cL_law 4 = .ok (.invokespecial 15, 3) := by decide +kernel
theorem dL_law_7 : decode cL_law 7 = .ok (.astore_n 1, 1) := by decide +kernel
theorem dL_law_8 : decode cL_law 8 = .ok (.new 16, 3) := by decide +kernel
theorem dL_law_11 : decode cL_law 11 = .ok (.dup, 1) := by decide +kernel
theorem dL_law_12 : decode cL_law 12 = .ok (.invokespecial 18, 3) := by decide +kernel
theorem dL_law_15 : decode cL_law 15 = .ok (.astore_n 2, 1) := by decide +kernel
theorem dL_law_16 : decode cL_law 16 = .ok (.iconst 1, 1) := by decide +kernel
theorem dL_law_17 : decode cL_law 17 = .ok (.newarray .long, 2) := by decide +kernel
theorem dL_law_19 : decode cL_law 19 = .ok (.astore_n 3, 1) := by decide +kernel
theorem dL_law_20 : decode cL_law 20 = .ok (.iconst 0, 1) := by decide +kernel
theorem dL_law_21 : decode cL_law 21 = .ok (.istore 4, 2) := by decide +kernel
theorem dL_law_23 : decode cL_law 23 = .ok (.iload 4, 2) := by decide +kernel
theorem dL_law_25 : decode cL_law 25 = .ok (.aload_n 0, 1) := by decide +kernel
theorem dL_law_26 : decode cL_law 26 = .ok (.arraylength, 1) := by decide +kernel
theorem dL_law_27 : decode cL_law 27 = .ok (.bipush 6, 2) := by decide +kernel
theorem dL_law_29 : decode cL_law 29 = .ok (.isub, 1) := by decide +kernel
theorem dL_law_30 : decode cL_law 30 = .ok (.if_icmp .gt 1275, 3) := by decide +kernel
theorem dL_law_33 : decode cL_law 33 = .ok (.aload_n 0, 1) := by decide +kernel
theorem dL_law_34 : decode cL_law 34 = .ok (.iload 4, 2) := by decide +kernel
theorem dL_law_36 : decode cL_law 36 = .ok (.iaload, 1) := by decide +kernel
theorem dL_law_37 : decode cL_law 37 = .ok (.bipush 31, 2) := by decide +kernel
theorem dL_law_39 : decode cL_law 39 = .ok (.iand, 1) := by decide +kernel
theorem dL_law_40 : decode cL_law 40 = .ok (.tableswitch 1259 0 29 #[136, 209, 234, 247, 260, 285, 323, 360, 397, 435, 460, 526, 592, 618, 655, 692, 730, 755, 780, 830, 867, 917, 979, 1005, 1054, 1091, 1128, 1177, 1233, 1246], 136) := by decide +kernel
theorem dL_law_176 : decode cL_law 176 = .ok (.aload_n 1, 1) := by decide +kernel
theorem dL_law_177 : decode cL_law 177 = .ok (.aload_n 0, 1) := by decide +kernel
theorem dL_law_178 : decode cL_law 178 = .ok (.iload 4, 2) := by decide +kernel
theorem dL_law_180 : decode cL_law 180 = .ok (.iconst 1, 1) := by decide +kernel
theorem dL_law_181 : decode cL_law 181 = .ok (.iadd, 1) := by decide +kernel
theorem dL_law_182 : decode cL_law 182 = .ok (.iaload, 1) := by decide +kernel
theorem dL_law_183 : decode cL_law 183 = .ok (.aload_n 0, 1) := by decide +kernel
theorem dL_law_184 : decode cL_law 184 = .ok (.iload 4, 2) := by decide +kernel
theorem dL_law_186 : decode cL_law 186 = .ok (.iconst 2, 1) := by decide +kernel
theorem dL_law_187 : decode cL_law 187 = .ok (.iadd, 1) := by decide +kernel
theorem dL_law_188 : decode cL_law 188 = .ok (.iaload, 1) := by decide +kernel
theorem dL_law_189 : decode cL_law 189 = .ok (.aload_n 0, 1) := by decide +kernel
theorem dL_law_190 : decode cL_law 190 = .ok (.iload 4, 2) := by decide +kernel
theorem dL_law_192 : decode cL_law 192 = .ok (.iconst 3, 1) := by decide +kernel
theorem dL_law_193 : decode cL_law 193 = .ok (.iadd, 1) := by decide +kernel
theorem dL_law_194 : decode cL_law 194 = .ok (.iaload, 1) := by decide +kernel
theorem dL_law_195 : decode cL_law 195 = .ok (.aload_n 0, 1) := by decide +kernel
theorem dL_law_196 : decode cL_law 196 = .ok (.iload 4, 2) := by decide +kernel
theorem dL_law_198 : decode cL_law 198 = .ok (.iconst 4, 1) := by decide +kernel
theorem dL_law_199 : decode cL_law 199 = .ok (.iadd, 1) := by decide +kernel
theorem dL_law_200 : decode cL_law 200 = .ok (.iaload, 1) := by decide +kernel
theorem dL_law_201 : decode cL_law 201 = .ok (.aload_n 0, 1) := by decide +kernel
theorem dL_law_202 : decode cL_law 202 = .ok (.iload 4, 2) := by decide +kernel
theorem dL_law_204 : decode cL_law 204 = .ok (.iconst 5, 1) := by decide +kernel
theorem dL_law_205 : decode cL_law 205 = .ok (.iadd, 1) := by decide +kernel
theorem dL_law_206 : decode cL_law 206 = .ok (.iaload, 1) := by decide +kernel
theorem dL_law_207 : decode cL_law 207 = .ok (.invokevirtual 19, 3) := by decide +kernel
theorem dL_law_210 : decode cL_law 210 = .ok (.aload_n 2, 1) := by decide +kernel
theorem dL_law_211 : decode cL_law 211 = .ok (.aload_n 0, 1) := by decide +kernel
theorem dL_law_212 : decode cL_law 212 = .ok (.iload 4, 2) := by decide +kernel
theorem dL_law_214 : decode cL_law 214 = .ok (.iconst 1, 1) := by decide +kernel
theorem dL_law_215 : decode cL_law 215 = .ok (.iadd, 1) := by decide +kernel
theorem dL_law_216 : decode cL_law 216 = .ok (.iaload, 1) := by decide +kernel
theorem dL_law_217 : decode cL_law 217 = .ok (.aload_n 0, 1) := by decide +kernel
theorem dL_law_218 : decode cL_law 218 = .ok (.iload 4, 2) := by decide +kernel
theorem dL_law_220 : decode cL_law 220 = .ok (.iconst 2, 1) := by decide +kernel
theorem dL_law_221 : decode cL_law 221 = .ok (.iadd, 1) := by decide +kernel
theorem dL_law_222 : decode cL_law 222 = .ok (.iaload, 1) := by decide +kernel
theorem dL_law_223 : decode cL_law 223 = .ok (.aload_n 0, 1) := by decide +kernel
theorem dL_law_224 : decode cL_law 224 = .ok (.iload 4, 2) := by decide +kernel
theorem dL_law_226 : decode cL_law 226 = .ok (.iconst 3, 1) := by decide +kernel
theorem dL_law_227 : decode cL_law 227 = .ok (.iadd, 1) := by decide +kernel
theorem dL_law_228 : decode cL_law 228 = .ok (.iaload, 1) := by decide +kernel
theorem dL_law_229 : decode cL_law 229 = .ok (.aload_n 0, 1) := by decide +kernel
theorem dL_law_230 : decode cL_law 230 = .ok (.iload 4, 2) := by decide +kernel
theorem dL_law_232 : decode cL_law 232 = .ok (.iconst 4, 1) := by decide +kernel
theorem dL_law_233 : decode cL_law 233 = .ok (.iadd, 1) := by decide +kernel
theorem dL_law_234 : decode cL_law 234 = .ok (.iaload, 1) := by decide +kernel
theorem dL_law_235 : decode cL_law 235 = .ok (.aload_n 0, 1) := by decide +kernel
theorem dL_law_236 : decode cL_law 236 = .ok (.iload 4, 2) := by decide +kernel
theorem dL_law_238 : decode cL_law 238 = .ok (.iconst 5, 1) := by decide +kernel
theorem dL_law_239 : decode cL_law 239 = .ok (.iadd, 1) := by decide +kernel
theorem dL_law_240 : decode cL_law 240 = .ok (.iaload, 1) := by decide +kernel
theorem dL_law_241 : decode cL_law 241 = .ok (.invokevirtual 23, 3) := by decide +kernel
theorem dL_law_244 : decode cL_law 244 = .ok (.if_icmp .eq 1055, 3) := by decide +kernel
theorem dL_law_247 : decode cL_law 247 = .ok (.iconst 0, 1) := by decide +kernel
theorem dL_law_248 : decode cL_law 248 = .ok (.ireturn, 1) := by decide +kernel
theorem dL_law_249 : decode cL_law 249 = .ok (.aload_n 1, 1) := by decide +kernel
theorem dL_law_250 : decode cL_law 250 = .ok (.aload_n 0, 1) := by decide +kernel
theorem dL_law_251 : decode cL_law 251 = .ok (.iload 4, 2) := by decide +kernel
theorem dL_law_253 : decode cL_law 253 = .ok (.iconst 1, 1) := by decide +kernel
theorem dL_law_254 : decode cL_law 254 = .ok (.iadd, 1) := by decide +kernel
theorem dL_law_255 : decode cL_law 255 = .ok (.iaload, 1) := by decide +kernel
theorem dL_law_256 : decode cL_law 256 = .ok (.invokevirtual 24, 3) := by decide +kernel
theorem dL_law_259 : decode cL_law 259 = .ok (.aload_n 2, 1) := by decide +kernel
theorem dL_law_260 : decode cL_law 260 = .ok (.aload_n 0, 1) := by decide +kernel
theorem dL_law_261 : decode cL_law 261 = .ok (.iload 4, 2) := by decide +kernel
theorem dL_law_263 : decode cL_law 263 = .ok (.iconst 1, 1) := by decide +kernel
theorem dL_law_264 : decode cL_law 264 = .ok (.iadd, 1) := by decide +kernel
theorem dL_law_265 : decode cL_law 265 = .ok (.iaload, 1) := by decide +kernel
theorem dL_law_266 : decode cL_law 266 = .ok (.invokevirtual 27, 3) := by decide +kernel
theorem dL_law_269 : decode cL_law 269 = .ok (.if_icmp .eq 1030, 3) := by decide +kernel
theorem dL_law_272 : decode cL_law 272 = .ok (.iconst 0, 1) := by decide +kernel
theorem dL_law_273 : decode cL_law 273 = .ok (.ireturn, 1) := by decide +kernel
theorem dL_law_274 : decode cL_law 274 = .ok (.aload_n 1, 1) := by decide +kernel
theorem dL_law_275 : decode cL_law 275 = .ok (.invokevirtual 28, 3) := by decide +kernel
theorem dL_law_278 : decode cL_law 278 = .ok (.aload_n 2, 1) := by decide +kernel
theorem dL_law_279 : decode cL_law 279 = .ok (.invokevirtual 32, 3) := by decide +kernel
theorem dL_law_282 : decode cL_law 282 = .ok (.if_icmp .eq 1017, 3) := by decide +kernel
theorem dL_law_285 : decode cL_law 285 = .ok (.iconst 0, 1) := by decide +kernel
theorem dL_law_286 : decode cL_law 286 = .ok (.ireturn, 1) := by decide +kernel
theorem dL_law_287 : decode cL_law 287 = .ok (.aload_n 1, 1) := by decide +kernel
theorem dL_law_288 : decode cL_law 288 = .ok (.invokevirtual 33, 3) := by decide +kernel
theorem dL_law_291 : decode cL_law 291 = .ok (.aload_n 2, 1) := by decide +kernel
theorem dL_law_292 : decode cL_law 292 = .ok (.invokevirtual 36, 3) := by decide +kernel
theorem dL_law_295 : decode cL_law 295 = .ok (.if_icmp .eq 1004, 3) := by decide +kernel
theorem dL_law_298 : decode cL_law 298 = .ok (.iconst 0, 1) := by decide +kernel
theorem dL_law_299 : decode cL_law 299 = .ok (.ireturn, 1) := by decide +kernel
theorem dL_law_300 : decode cL_law 300 = .ok (.aload_n 1, 1) := by decide +kernel
theorem dL_law_301 : decode cL_law 301 = .ok (.aload_n 0, 1) := by decide +kernel
theorem dL_law_302 : decode cL_law 302 = .ok (.iload 4, 2) := by decide +kernel
theorem dL_law_304 : decode cL_law 304 = .ok (.iconst 1, 1) := by decide +kernel
theorem dL_law_305 : decode cL_law 305 = .ok (.iadd, 1) := by decide +kernel
theorem dL_law_306 : decode cL_law 306 = .ok (.iaload, 1) := by decide +kernel
theorem dL_law_307 : decode cL_law 307 = .ok (.invokevirtual 37, 3) := by decide +kernel
theorem dL_law_310 : decode cL_law 310 = .ok (.aload_n 2, 1) := by decide +kernel
theorem dL_law_311 : decode cL_law 311 = .ok (.aload_n 0, 1) := by decide +kernel
theorem dL_law_312 : decode cL_law 312 = .ok (.iload 4, 2) := by decide +kernel
theorem dL_law_314 : decode cL_law 314 = .ok (.iconst 1, 1) := by decide +kernel
theorem dL_law_315 : decode cL_law 315 = .ok (.iadd, 1) := by decide +kernel
theorem dL_law_316 : decode cL_law 316 = .ok (.iaload, 1) := by decide +kernel
theorem dL_law_317 : decode cL_law 317 = .ok (.invokevirtual 40, 3) := by decide +kernel
theorem dL_law_320 : decode cL_law 320 = .ok (.if_icmp .eq 979, 3) := by decide +kernel
theorem dL_law_323 : decode cL_law 323 = .ok (.iconst 0, 1) := by decide +kernel
theorem dL_law_324 : decode cL_law 324 = .ok (.ireturn, 1) := by decide +kernel
theorem dL_law_325 : decode cL_law 325 = .ok (.aload_n 1, 1) := by decide +kernel
theorem dL_law_326 : decode cL_law 326 = .ok (.aload_n 0, 1) := by decide +kernel
theorem dL_law_327 : decode cL_law 327 = .ok (.iload 4, 2) := by decide +kernel
theorem dL_law_329 : decode cL_law 329 = .ok (.iconst 1, 1) := by decide +kernel
theorem dL_law_330 : decode cL_law 330 = .ok (.iadd, 1) := by decide +kernel
theorem dL_law_331 : decode cL_law 331 = .ok (.iaload, 1) := by decide +kernel
theorem dL_law_332 : decode cL_law 332 = .ok (.aload_n 0, 1) := by decide +kernel
theorem dL_law_333 : decode cL_law 333 = .ok (.iload 4, 2) := by decide +kernel
theorem dL_law_335 : decode cL_law 335 = .ok (.iconst 2, 1) := by decide +kernel
theorem dL_law_336 : decode cL_law 336 = .ok (.iadd, 1) := by decide +kernel
theorem dL_law_337 : decode cL_law 337 = .ok (.iaload, 1) := by decide +kernel
theorem dL_law_338 : decode cL_law 338 = .ok (.invokevirtual 41, 3) := by decide +kernel
theorem dL_law_341 : decode cL_law 341 = .ok (.aload_n 2, 1) := by decide +kernel
theorem dL_law_342 : decode cL_law 342 = .ok (.aload_n 0, 1) := by decide +kernel
theorem dL_law_343 : decode cL_law 343 = .ok (.iload 4, 2) := by decide +kernel
theorem dL_law_345 : decode cL_law 345 = .ok (.iconst 1, 1) := by decide +kernel
theorem dL_law_346 : decode cL_law 346 = .ok (.iadd, 1) := by decide +kernel
theorem dL_law_347 : decode cL_law 347 = .ok (.iaload, 1) := by decide +kernel
theorem dL_law_348 : decode cL_law 348 = .ok (.aload_n 0, 1) := by decide +kernel
theorem dL_law_349 : decode cL_law 349 = .ok (.iload 4, 2) := by decide +kernel
theorem dL_law_351 : decode cL_law 351 = .ok (.iconst 2, 1) := by decide +kernel
theorem dL_law_352 : decode cL_law 352 = .ok (.iadd, 1) := by decide +kernel
theorem dL_law_353 : decode cL_law 353 = .ok (.iaload, 1) := by decide +kernel
theorem dL_law_354 : decode cL_law 354 = .ok (.invokevirtual 45, 3) := by decide +kernel
theorem dL_law_357 : decode cL_law 357 = .ok (.lcmp, 1) := by decide +kernel
theorem dL_law_358 : decode cL_law 358 = .ok (.ifCond .eq 941, 3) := by decide +kernel
theorem dL_law_361 : decode cL_law 361 = .ok (.iconst 0, 1) := by decide +kernel
theorem dL_law_362 : decode cL_law 362 = .ok (.ireturn, 1) := by decide +kernel
theorem dL_law_363 : decode cL_law 363 = .ok (.aload_n 1, 1) := by decide +kernel
theorem dL_law_364 : decode cL_law 364 = .ok (.aload_n 0, 1) := by decide +kernel
theorem dL_law_365 : decode cL_law 365 = .ok (.iload 4, 2) := by decide +kernel
theorem dL_law_367 : decode cL_law 367 = .ok (.iconst 1, 1) := by decide +kernel
theorem dL_law_368 : decode cL_law 368 = .ok (.iadd, 1) := by decide +kernel
theorem dL_law_369 : decode cL_law 369 = .ok (.iaload, 1) := by decide +kernel
theorem dL_law_370 : decode cL_law 370 = .ok (.aload_n 0, 1) := by decide +kernel
theorem dL_law_371 : decode cL_law 371 = .ok (.iload 4, 2) := by decide +kernel
theorem dL_law_373 : decode cL_law 373 = .ok (.iconst 2, 1) := by decide +kernel
theorem dL_law_374 : decode cL_law 374 = .ok (.iadd, 1) := by decide +kernel
theorem dL_law_375 : decode cL_law 375 = .ok (.iaload, 1) := by decide +kernel
theorem dL_law_376 : decode cL_law 376 = .ok (.invokevirtual 46, 3) := by decide +kernel
theorem dL_law_379 : decode cL_law 379 = .ok (.aload_n 2, 1) := by decide +kernel
theorem dL_law_380 : decode cL_law 380 = .ok (.aload_n 0, 1) := by decide +kernel
theorem dL_law_381 : decode cL_law 381 = .ok (.iload 4, 2) := by decide +kernel
theorem dL_law_383 : decode cL_law 383 = .ok (.iconst 1, 1) := by decide +kernel
theorem dL_law_384 : decode cL_law 384 = .ok (.iadd, 1) := by decide +kernel
theorem dL_law_385 : decode cL_law 385 = .ok (.iaload, 1) := by decide +kernel
theorem dL_law_386 : decode cL_law 386 = .ok (.aload_n 0, 1) := by decide +kernel
theorem dL_law_387 : decode cL_law 387 = .ok (.iload 4, 2) := by decide +kernel
theorem dL_law_389 : decode cL_law 389 = .ok (.iconst 2, 1) := by decide +kernel
theorem dL_law_390 : decode cL_law 390 = .ok (.iadd, 1) := by decide +kernel
theorem dL_law_391 : decode cL_law 391 = .ok (.iaload, 1) := by decide +kernel
theorem dL_law_392 : decode cL_law 392 = .ok (.invokevirtual 50, 3) := by decide +kernel
theorem dL_law_395 : decode cL_law 395 = .ok (.if_icmp .eq 904, 3) := by decide +kernel
theorem dL_law_398 : decode cL_law 398 = .ok (.iconst 0, 1) := by decide +kernel
theorem dL_law_399 : decode cL_law 399 = .ok (.ireturn, 1) := by decide +kernel
theorem dL_law_400 : decode cL_law 400 = .ok (.aload_n 1, 1) := by decide +kernel
theorem dL_law_401 : decode cL_law 401 = .ok (.aload_n 0, 1) := by decide +kernel
theorem dL_law_402 : decode cL_law 402 = .ok (.iload 4, 2) := by decide +kernel
theorem dL_law_404 : decode cL_law 404 = .ok (.iconst 1, 1) := by decide +kernel
theorem dL_law_405 : decode cL_law 405 = .ok (.iadd, 1) := by decide +kernel
theorem dL_law_406 : decode cL_law 406 = .ok (.iaload, 1) := by decide +kernel
theorem dL_law_407 : decode cL_law 407 = .ok (.aload_n 0, 1) := by decide +kernel
theorem dL_law_408 : decode cL_law 408 = .ok (.iload 4, 2) := by decide +kernel
theorem dL_law_410 : decode cL_law 410 = .ok (.iconst 2, 1) := by decide +kernel
theorem dL_law_411 : decode cL_law 411 = .ok (.iadd, 1) := by decide +kernel
theorem dL_law_412 : decode cL_law 412 = .ok (.iaload, 1) := by decide +kernel
theorem dL_law_413 : decode cL_law 413 = .ok (.invokevirtual 51, 3) := by decide +kernel
theorem dL_law_416 : decode cL_law 416 = .ok (.aload_n 2, 1) := by decide +kernel
theorem dL_law_417 : decode cL_law 417 = .ok (.aload_n 0, 1) := by decide +kernel
theorem dL_law_418 : decode cL_law 418 = .ok (.iload 4, 2) := by decide +kernel
theorem dL_law_420 : decode cL_law 420 = .ok (.iconst 1, 1) := by decide +kernel
theorem dL_law_421 : decode cL_law 421 = .ok (.iadd, 1) := by decide +kernel
theorem dL_law_422 : decode cL_law 422 = .ok (.iaload, 1) := by decide +kernel
theorem dL_law_423 : decode cL_law 423 = .ok (.aload_n 0, 1) := by decide +kernel
theorem dL_law_424 : decode cL_law 424 = .ok (.iload 4, 2) := by decide +kernel
theorem dL_law_426 : decode cL_law 426 = .ok (.iconst 2, 1) := by decide +kernel
theorem dL_law_427 : decode cL_law 427 = .ok (.iadd, 1) := by decide +kernel
theorem dL_law_428 : decode cL_law 428 = .ok (.iaload, 1) := by decide +kernel
theorem dL_law_429 : decode cL_law 429 = .ok (.invokevirtual 55, 3) := by decide +kernel
theorem dL_law_432 : decode cL_law 432 = .ok (.if_icmp .eq 867, 3) := by decide +kernel
theorem dL_law_435 : decode cL_law 435 = .ok (.iconst 0, 1) := by decide +kernel
theorem dL_law_436 : decode cL_law 436 = .ok (.ireturn, 1) := by decide +kernel
theorem dL_law_437 : decode cL_law 437 = .ok (.aload_n 1, 1) := by decide +kernel
theorem dL_law_438 : decode cL_law 438 = .ok (.aload_n 0, 1) := by decide +kernel
theorem dL_law_439 : decode cL_law 439 = .ok (.iload 4, 2) := by decide +kernel
theorem dL_law_441 : decode cL_law 441 = .ok (.iconst 1, 1) := by decide +kernel
theorem dL_law_442 : decode cL_law 442 = .ok (.iadd, 1) := by decide +kernel
theorem dL_law_443 : decode cL_law 443 = .ok (.iaload, 1) := by decide +kernel
theorem dL_law_444 : decode cL_law 444 = .ok (.aload_n 0, 1) := by decide +kernel
theorem dL_law_445 : decode cL_law 445 = .ok (.iload 4, 2) := by decide +kernel
theorem dL_law_447 : decode cL_law 447 = .ok (.iconst 2, 1) := by decide +kernel
theorem dL_law_448 : decode cL_law 448 = .ok (.iadd, 1) := by decide +kernel
theorem dL_law_449 : decode cL_law 449 = .ok (.iaload, 1) := by decide +kernel
theorem dL_law_450 : decode cL_law 450 = .ok (.invokevirtual 56, 3) := by decide +kernel
theorem dL_law_453 : decode cL_law 453 = .ok (.aload_n 2, 1) := by decide +kernel
theorem dL_law_454 : decode cL_law 454 = .ok (.aload_n 0, 1) := by decide +kernel
theorem dL_law_455 : decode cL_law 455 = .ok (.iload 4, 2) := by decide +kernel
theorem dL_law_457 : decode cL_law 457 = .ok (.iconst 1, 1) := by decide +kernel
theorem dL_law_458 : decode cL_law 458 = .ok (.iadd, 1) := by decide +kernel
theorem dL_law_459 : decode cL_law 459 = .ok (.iaload, 1) := by decide +kernel
theorem dL_law_460 : decode cL_law 460 = .ok (.aload_n 0, 1) := by decide +kernel
theorem dL_law_461 : decode cL_law 461 = .ok (.iload 4, 2) := by decide +kernel
theorem dL_law_463 : decode cL_law 463 = .ok (.iconst 2, 1) := by decide +kernel
theorem dL_law_464 : decode cL_law 464 = .ok (.iadd, 1) := by decide +kernel
theorem dL_law_465 : decode cL_law 465 = .ok (.iaload, 1) := by decide +kernel
theorem dL_law_466 : decode cL_law 466 = .ok (.invokevirtual 59, 3) := by decide +kernel
theorem dL_law_469 : decode cL_law 469 = .ok (.lcmp, 1) := by decide +kernel
theorem dL_law_470 : decode cL_law 470 = .ok (.ifCond .eq 829, 3) := by decide +kernel
theorem dL_law_473 : decode cL_law 473 = .ok (.iconst 0, 1) := by decide +kernel
theorem dL_law_474 : decode cL_law 474 = .ok (.ireturn, 1) := by decide +kernel
theorem dL_law_475 : decode cL_law 475 = .ok (.aload_n 1, 1) := by decide +kernel
theorem dL_law_476 : decode cL_law 476 = .ok (.aload_n 0, 1) := by decide +kernel
theorem dL_law_477 : decode cL_law 477 = .ok (.iload 4, 2) := by decide +kernel
theorem dL_law_479 : decode cL_law 479 = .ok (.iconst 1, 1) := by decide +kernel
theorem dL_law_480 : decode cL_law 480 = .ok (.iadd, 1) := by decide +kernel
theorem dL_law_481 : decode cL_law 481 = .ok (.iaload, 1) := by decide +kernel
theorem dL_law_482 : decode cL_law 482 = .ok (.invokevirtual 60, 3) := by decide +kernel
theorem dL_law_485 : decode cL_law 485 = .ok (.aload_n 2, 1) := by decide +kernel
theorem dL_law_486 : decode cL_law 486 = .ok (.aload_n 0, 1) := by decide +kernel
theorem dL_law_487 : decode cL_law 487 = .ok (.iload 4, 2) := by decide +kernel
theorem dL_law_489 : decode cL_law 489 = .ok (.iconst 1, 1) := by decide +kernel
theorem dL_law_490 : decode cL_law 490 = .ok (.iadd, 1) := by decide +kernel
theorem dL_law_491 : decode cL_law 491 = .ok (.iaload, 1) := by decide +kernel
theorem dL_law_492 : decode cL_law 492 = .ok (.invokevirtual 63, 3) := by decide +kernel
theorem dL_law_495 : decode cL_law 495 = .ok (.if_icmp .eq 804, 3) := by decide +kernel
theorem dL_law_498 : decode cL_law 498 = .ok (.iconst 0, 1) := by decide +kernel
theorem dL_law_499 : decode cL_law 499 = .ok (.ireturn, 1) := by decide +kernel
theorem dL_law_500 : decode cL_law 500 = .ok (.aload_n 1, 1) := by decide +kernel
theorem dL_law_501 : decode cL_law 501 = .ok (.aload_n 0, 1) := by decide +kernel
theorem dL_law_502 : decode cL_law 502 = .ok (.iload 4, 2) := by decide +kernel
theorem dL_law_504 : decode cL_law 504 = .ok (.iconst 1, 1) := by decide +kernel
theorem dL_law_505 : decode cL_law 505 = .ok (.iadd, 1) := by decide +kernel
theorem dL_law_506 : decode cL_law 506 = .ok (.iaload, 1) := by decide +kernel
theorem dL_law_507 : decode cL_law 507 = .ok (.aload_n 0, 1) := by decide +kernel
theorem dL_law_508 : decode cL_law 508 = .ok (.iload 4, 2) := by decide +kernel
theorem dL_law_510 : decode cL_law 510 = .ok (.iconst 2, 1) := by decide +kernel
theorem dL_law_511 : decode cL_law 511 = .ok (.iadd, 1) := by decide +kernel
theorem dL_law_512 : decode cL_law 512 = .ok (.iaload, 1) := by decide +kernel
theorem dL_law_513 : decode cL_law 513 = .ok (.ifCond .eq 7, 3) := by decide +kernel
theorem dL_law_516 : decode cL_law 516 = .ok (.iconst 1, 1) := by decide +kernel
theorem dL_law_517 : decode cL_law 517 = .ok (.goto 4, 3) := by decide +kernel
theorem dL_law_520 : decode cL_law 520 = .ok (.iconst 0, 1) := by decide +kernel
theorem dL_law_521 : decode cL_law 521 = .ok (.aload_n 0, 1) := by decide +kernel
theorem dL_law_522 : decode cL_law 522 = .ok (.iload 4, 2) := by decide +kernel
theorem dL_law_524 : decode cL_law 524 = .ok (.iconst 3, 1) := by decide +kernel
theorem dL_law_525 : decode cL_law 525 = .ok (.iadd, 1) := by decide +kernel
theorem dL_law_526 : decode cL_law 526 = .ok (.iaload, 1) := by decide +kernel
theorem dL_law_527 : decode cL_law 527 = .ok (.invokevirtual 64, 3) := by decide +kernel
theorem dL_law_530 : decode cL_law 530 = .ok (.aload_n 2, 1) := by decide +kernel
theorem dL_law_531 : decode cL_law 531 = .ok (.aload_n 0, 1) := by decide +kernel
theorem dL_law_532 : decode cL_law 532 = .ok (.iload 4, 2) := by decide +kernel
theorem dL_law_534 : decode cL_law 534 = .ok (.iconst 1, 1) := by decide +kernel
theorem dL_law_535 : decode cL_law 535 = .ok (.iadd, 1) := by decide +kernel
theorem dL_law_536 : decode cL_law 536 = .ok (.iaload, 1) := by decide +kernel
theorem dL_law_537 : decode cL_law 537 = .ok (.aload_n 0, 1) := by decide +kernel
theorem dL_law_538 : decode cL_law 538 = .ok (.iload 4, 2) := by decide +kernel
theorem dL_law_540 : decode cL_law 540 = .ok (.iconst 2, 1) := by decide +kernel
theorem dL_law_541 : decode cL_law 541 = .ok (.iadd, 1) := by decide +kernel
theorem dL_law_542 : decode cL_law 542 = .ok (.iaload, 1) := by decide +kernel
theorem dL_law_543 : decode cL_law 543 = .ok (.ifCond .eq 7, 3) := by decide +kernel
theorem dL_law_546 : decode cL_law 546 = .ok (.iconst 1, 1) := by decide +kernel
theorem dL_law_547 : decode cL_law 547 = .ok (.goto 4, 3) := by decide +kernel
theorem dL_law_550 : decode cL_law 550 = .ok (.iconst 0, 1) := by decide +kernel
theorem dL_law_551 : decode cL_law 551 = .ok (.aload_n 0, 1) := by decide +kernel
theorem dL_law_552 : decode cL_law 552 = .ok (.iload 4, 2) := by decide +kernel
theorem dL_law_554 : decode cL_law 554 = .ok (.iconst 3, 1) := by decide +kernel
theorem dL_law_555 : decode cL_law 555 = .ok (.iadd, 1) := by decide +kernel
theorem dL_law_556 : decode cL_law 556 = .ok (.iaload, 1) := by decide +kernel
theorem dL_law_557 : decode cL_law 557 = .ok (.invokevirtual 68, 3) := by decide +kernel
theorem dL_law_560 : decode cL_law 560 = .ok (.lcmp, 1) := by decide +kernel
theorem dL_law_561 : decode cL_law 561 = .ok (.ifCond .eq 738, 3) := by decide +kernel
theorem dL_law_564 : decode cL_law 564 = .ok (.iconst 0, 1) := by decide +kernel
theorem dL_law_565 : decode cL_law 565 = .ok (.ireturn, 1) := by decide +kernel
theorem dL_law_566 : decode cL_law 566 = .ok (.aload_n 1, 1) := by decide +kernel
theorem dL_law_567 : decode cL_law 567 = .ok (.aload_n 0, 1) := by decide +kernel
theorem dL_law_568 : decode cL_law 568 = .ok (.iload 4, 2) := by decide +kernel
theorem dL_law_570 : decode cL_law 570 = .ok (.iconst 1, 1) := by decide +kernel
theorem dL_law_571 : decode cL_law 571 = .ok (.iadd, 1) := by decide +kernel
theorem dL_law_572 : decode cL_law 572 = .ok (.iaload, 1) := by decide +kernel
theorem dL_law_573 : decode cL_law 573 = .ok (.aload_n 0, 1) := by decide +kernel
theorem dL_law_574 : decode cL_law 574 = .ok (.iload 4, 2) := by decide +kernel
theorem dL_law_576 : decode cL_law 576 = .ok (.iconst 2, 1) := by decide +kernel
theorem dL_law_577 : decode cL_law 577 = .ok (.iadd, 1) := by decide +kernel
theorem dL_law_578 : decode cL_law 578 = .ok (.iaload, 1) := by decide +kernel
theorem dL_law_579 : decode cL_law 579 = .ok (.ifCond .eq 7, 3) := by decide +kernel
theorem dL_law_582 : decode cL_law 582 = .ok (.iconst 1, 1) := by decide +kernel
theorem dL_law_583 : decode cL_law 583 = .ok (.goto 4, 3) := by decide +kernel
theorem dL_law_586 : decode cL_law 586 = .ok (.iconst 0, 1) := by decide +kernel
theorem dL_law_587 : decode cL_law 587 = .ok (.aload_n 0, 1) := by decide +kernel
theorem dL_law_588 : decode cL_law 588 = .ok (.iload 4, 2) := by decide +kernel
theorem dL_law_590 : decode cL_law 590 = .ok (.iconst 3, 1) := by decide +kernel
theorem dL_law_591 : decode cL_law 591 = .ok (.iadd, 1) := by decide +kernel
theorem dL_law_592 : decode cL_law 592 = .ok (.iaload, 1) := by decide +kernel
theorem dL_law_593 : decode cL_law 593 = .ok (.invokevirtual 69, 3) := by decide +kernel
theorem dL_law_596 : decode cL_law 596 = .ok (.aload_n 2, 1) := by decide +kernel
theorem dL_law_597 : decode cL_law 597 = .ok (.aload_n 0, 1) := by decide +kernel
theorem dL_law_598 : decode cL_law 598 = .ok (.iload 4, 2) := by decide +kernel
theorem dL_law_600 : decode cL_law 600 = .ok (.iconst 1, 1) := by decide +kernel
theorem dL_law_601 : decode cL_law 601 = .ok (.iadd, 1) := by decide +kernel
theorem dL_law_602 : decode cL_law 602 = .ok (.iaload, 1) := by decide +kernel
theorem dL_law_603 : decode cL_law 603 = .ok (.aload_n 0, 1) := by decide +kernel
theorem dL_law_604 : decode cL_law 604 = .ok (.iload 4, 2) := by decide +kernel
theorem dL_law_606 : decode cL_law 606 = .ok (.iconst 2, 1) := by decide +kernel
theorem dL_law_607 : decode cL_law 607 = .ok (.iadd, 1) := by decide +kernel
theorem dL_law_608 : decode cL_law 608 = .ok (.iaload, 1) := by decide +kernel
theorem dL_law_609 : decode cL_law 609 = .ok (.ifCond .eq 7, 3) := by decide +kernel
theorem dL_law_612 : decode cL_law 612 = .ok (.iconst 1, 1) := by decide +kernel
theorem dL_law_613 : decode cL_law 613 = .ok (.goto 4, 3) := by decide +kernel
theorem dL_law_616 : decode cL_law 616 = .ok (.iconst 0, 1) := by decide +kernel
theorem dL_law_617 : decode cL_law 617 = .ok (.aload_n 0, 1) := by decide +kernel
theorem dL_law_618 : decode cL_law 618 = .ok (.iload 4, 2) := by decide +kernel
theorem dL_law_620 : decode cL_law 620 = .ok (.iconst 3, 1) := by decide +kernel
theorem dL_law_621 : decode cL_law 621 = .ok (.iadd, 1) := by decide +kernel
theorem dL_law_622 : decode cL_law 622 = .ok (.iaload, 1) := by decide +kernel
theorem dL_law_623 : decode cL_law 623 = .ok (.invokevirtual 72, 3) := by decide +kernel
theorem dL_law_626 : decode cL_law 626 = .ok (.lcmp, 1) := by decide +kernel
theorem dL_law_627 : decode cL_law 627 = .ok (.ifCond .eq 672, 3) := by decide +kernel
theorem dL_law_630 : decode cL_law 630 = .ok (.iconst 0, 1) := by decide +kernel
theorem dL_law_631 : decode cL_law 631 = .ok (.ireturn, 1) := by decide +kernel
theorem dL_law_632 : decode cL_law 632 = .ok (.aload_n 1, 1) := by decide +kernel
theorem dL_law_633 : decode cL_law 633 = .ok (.aload_n 0, 1) := by decide +kernel
theorem dL_law_634 : decode cL_law 634 = .ok (.iload 4, 2) := by decide +kernel
theorem dL_law_636 : decode cL_law 636 = .ok (.iconst 1, 1) := by decide +kernel
theorem dL_law_637 : decode cL_law 637 = .ok (.iadd, 1) := by decide +kernel
theorem dL_law_638 : decode cL_law 638 = .ok (.iaload, 1) := by decide +kernel
theorem dL_law_639 : decode cL_law 639 = .ok (.invokevirtual 73, 3) := by decide +kernel
theorem dL_law_642 : decode cL_law 642 = .ok (.aload_n 2, 1) := by decide +kernel
theorem dL_law_643 : decode cL_law 643 = .ok (.aload_n 0, 1) := by decide +kernel
theorem dL_law_644 : decode cL_law 644 = .ok (.iload 4, 2) := by decide +kernel
theorem dL_law_646 : decode cL_law 646 = .ok (.iconst 1, 1) := by decide +kernel
theorem dL_law_647 : decode cL_law 647 = .ok (.iadd, 1) := by decide +kernel
theorem dL_law_648 : decode cL_law 648 = .ok (.iaload, 1) := by decide +kernel
theorem dL_law_649 : decode cL_law 649 = .ok (.invokevirtual 77, 3) := by decide +kernel
theorem dL_law_652 : decode cL_law 652 = .ok (.lcmp, 1) := by decide +kernel
theorem dL_law_653 : decode cL_law 653 = .ok (.ifCond .eq 646, 3) := by decide +kernel
theorem dL_law_656 : decode cL_law 656 = .ok (.iconst 0, 1) := by decide +kernel
theorem dL_law_657 : decode cL_law 657 = .ok (.ireturn, 1) := by decide +kernel
theorem dL_law_658 : decode cL_law 658 = .ok (.aload_n 1, 1) := by decide +kernel
theorem dL_law_659 : decode cL_law 659 = .ok (.aload_n 0, 1) := by decide +kernel
theorem dL_law_660 : decode cL_law 660 = .ok (.iload 4, 2) := by decide +kernel
theorem dL_law_662 : decode cL_law 662 = .ok (.iconst 1, 1) := by decide +kernel
theorem dL_law_663 : decode cL_law 663 = .ok (.iadd, 1) := by decide +kernel
theorem dL_law_664 : decode cL_law 664 = .ok (.iaload, 1) := by decide +kernel
theorem dL_law_665 : decode cL_law 665 = .ok (.aload_n 0, 1) := by decide +kernel
theorem dL_law_666 : decode cL_law 666 = .ok (.iload 4, 2) := by decide +kernel
theorem dL_law_668 : decode cL_law 668 = .ok (.iconst 2, 1) := by decide +kernel
theorem dL_law_669 : decode cL_law 669 = .ok (.iadd, 1) := by decide +kernel
theorem dL_law_670 : decode cL_law 670 = .ok (.iaload, 1) := by decide +kernel
theorem dL_law_671 : decode cL_law 671 = .ok (.invokevirtual 78, 3) := by decide +kernel
theorem dL_law_674 : decode cL_law 674 = .ok (.aload_n 2, 1) := by decide +kernel
theorem dL_law_675 : decode cL_law 675 = .ok (.aload_n 0, 1) := by decide +kernel
theorem dL_law_676 : decode cL_law 676 = .ok (.iload 4, 2) := by decide +kernel
theorem dL_law_678 : decode cL_law 678 = .ok (.iconst 1, 1) := by decide +kernel
theorem dL_law_679 : decode cL_law 679 = .ok (.iadd, 1) := by decide +kernel
theorem dL_law_680 : decode cL_law 680 = .ok (.iaload, 1) := by decide +kernel
theorem dL_law_681 : decode cL_law 681 = .ok (.aload_n 0, 1) := by decide +kernel
theorem dL_law_682 : decode cL_law 682 = .ok (.iload 4, 2) := by decide +kernel
theorem dL_law_684 : decode cL_law 684 = .ok (.iconst 2, 1) := by decide +kernel
theorem dL_law_685 : decode cL_law 685 = .ok (.iadd, 1) := by decide +kernel
theorem dL_law_686 : decode cL_law 686 = .ok (.iaload, 1) := by decide +kernel
theorem dL_law_687 : decode cL_law 687 = .ok (.invokevirtual 81, 3) := by decide +kernel
theorem dL_law_690 : decode cL_law 690 = .ok (.if_icmp .eq 609, 3) := by decide +kernel
theorem dL_law_693 : decode cL_law 693 = .ok (.iconst 0, 1) := by decide +kernel
theorem dL_law_694 : decode cL_law 694 = .ok (.ireturn, 1) := by decide +kernel
theorem dL_law_695 : decode cL_law 695 = .ok (.aload_n 1, 1) := by decide +kernel
theorem dL_law_696 : decode cL_law 696 = .ok (.aload_n 0, 1) := by decide +kernel
theorem dL_law_697 : decode cL_law 697 = .ok (.iload 4, 2) := by decide +kernel
theorem dL_law_699 : decode cL_law 699 = .ok (.iconst 1, 1) := by decide +kernel
theorem dL_law_700 : decode cL_law 700 = .ok (.iadd, 1) := by decide +kernel
theorem dL_law_701 : decode cL_law 701 = .ok (.iaload, 1) := by decide +kernel
theorem dL_law_702 : decode cL_law 702 = .ok (.aload_n 0, 1) := by decide +kernel
theorem dL_law_703 : decode cL_law 703 = .ok (.iload 4, 2) := by decide +kernel
theorem dL_law_705 : decode cL_law 705 = .ok (.iconst 2, 1) := by decide +kernel
theorem dL_law_706 : decode cL_law 706 = .ok (.iadd, 1) := by decide +kernel
theorem dL_law_707 : decode cL_law 707 = .ok (.iaload, 1) := by decide +kernel
theorem dL_law_708 : decode cL_law 708 = .ok (.invokevirtual 82, 3) := by decide +kernel
theorem dL_law_711 : decode cL_law 711 = .ok (.aload_n 2, 1) := by decide +kernel
theorem dL_law_712 : decode cL_law 712 = .ok (.aload_n 0, 1) := by decide +kernel
theorem dL_law_713 : decode cL_law 713 = .ok (.iload 4, 2) := by decide +kernel
theorem dL_law_715 : decode cL_law 715 = .ok (.iconst 1, 1) := by decide +kernel
theorem dL_law_716 : decode cL_law 716 = .ok (.iadd, 1) := by decide +kernel
theorem dL_law_717 : decode cL_law 717 = .ok (.iaload, 1) := by decide +kernel
theorem dL_law_718 : decode cL_law 718 = .ok (.aload_n 0, 1) := by decide +kernel
theorem dL_law_719 : decode cL_law 719 = .ok (.iload 4, 2) := by decide +kernel
theorem dL_law_721 : decode cL_law 721 = .ok (.iconst 2, 1) := by decide +kernel
theorem dL_law_722 : decode cL_law 722 = .ok (.iadd, 1) := by decide +kernel
theorem dL_law_723 : decode cL_law 723 = .ok (.iaload, 1) := by decide +kernel
theorem dL_law_724 : decode cL_law 724 = .ok (.invokevirtual 85, 3) := by decide +kernel
theorem dL_law_727 : decode cL_law 727 = .ok (.if_icmp .eq 572, 3) := by decide +kernel
theorem dL_law_730 : decode cL_law 730 = .ok (.iconst 0, 1) := by decide +kernel
theorem dL_law_731 : decode cL_law 731 = .ok (.ireturn, 1) := by decide +kernel
theorem dL_law_732 : decode cL_law 732 = .ok (.aload_n 1, 1) := by decide +kernel
theorem dL_law_733 : decode cL_law 733 = .ok (.aload_n 0, 1) := by decide +kernel
theorem dL_law_734 : decode cL_law 734 = .ok (.iload 4, 2) := by decide +kernel
theorem dL_law_736 : decode cL_law 736 = .ok (.iconst 1, 1) := by decide +kernel
theorem dL_law_737 : decode cL_law 737 = .ok (.iadd, 1) := by decide +kernel
theorem dL_law_738 : decode cL_law 738 = .ok (.iaload, 1) := by decide +kernel
theorem dL_law_739 : decode cL_law 739 = .ok (.aload_n 0, 1) := by decide +kernel
theorem dL_law_740 : decode cL_law 740 = .ok (.iload 4, 2) := by decide +kernel
theorem dL_law_742 : decode cL_law 742 = .ok (.iconst 2, 1) := by decide +kernel
theorem dL_law_743 : decode cL_law 743 = .ok (.iadd, 1) := by decide +kernel
theorem dL_law_744 : decode cL_law 744 = .ok (.iaload, 1) := by decide +kernel
theorem dL_law_745 : decode cL_law 745 = .ok (.invokevirtual 86, 3) := by decide +kernel
theorem dL_law_748 : decode cL_law 748 = .ok (.aload_n 2, 1) := by decide +kernel
theorem dL_law_749 : decode cL_law 749 = .ok (.aload_n 0, 1) := by decide +kernel
theorem dL_law_750 : decode cL_law 750 = .ok (.iload 4, 2) := by decide +kernel
theorem dL_law_752 : decode cL_law 752 = .ok (.iconst 1, 1) := by decide +kernel
theorem dL_law_753 : decode cL_law 753 = .ok (.iadd, 1) := by decide +kernel
theorem dL_law_754 : decode cL_law 754 = .ok (.iaload, 1) := by decide +kernel
theorem dL_law_755 : decode cL_law 755 = .ok (.aload_n 0, 1) := by decide +kernel
theorem dL_law_756 : decode cL_law 756 = .ok (.iload 4, 2) := by decide +kernel
theorem dL_law_758 : decode cL_law 758 = .ok (.iconst 2, 1) := by decide +kernel
theorem dL_law_759 : decode cL_law 759 = .ok (.iadd, 1) := by decide +kernel
theorem dL_law_760 : decode cL_law 760 = .ok (.iaload, 1) := by decide +kernel
theorem dL_law_761 : decode cL_law 761 = .ok (.invokevirtual 89, 3) := by decide +kernel
theorem dL_law_764 : decode cL_law 764 = .ok (.lcmp, 1) := by decide +kernel
theorem dL_law_765 : decode cL_law 765 = .ok (.ifCond .eq 534, 3) := by decide +kernel
theorem dL_law_768 : decode cL_law 768 = .ok (.iconst 0, 1) := by decide +kernel
theorem dL_law_769 : decode cL_law 769 = .ok (.ireturn, 1) := by decide +kernel
theorem dL_law_770 : decode cL_law 770 = .ok (.aload_n 1, 1) := by decide +kernel
theorem dL_law_771 : decode cL_law 771 = .ok (.aload_n 0, 1) := by decide +kernel
theorem dL_law_772 : decode cL_law 772 = .ok (.iload 4, 2) := by decide +kernel
theorem dL_law_774 : decode cL_law 774 = .ok (.iconst 1, 1) := by decide +kernel
theorem dL_law_775 : decode cL_law 775 = .ok (.iadd, 1) := by decide +kernel
theorem dL_law_776 : decode cL_law 776 = .ok (.iaload, 1) := by decide +kernel
theorem dL_law_777 : decode cL_law 777 = .ok (.invokevirtual 90, 3) := by decide +kernel
theorem dL_law_780 : decode cL_law 780 = .ok (.aload_n 2, 1) := by decide +kernel
theorem dL_law_781 : decode cL_law 781 = .ok (.aload_n 0, 1) := by decide +kernel
theorem dL_law_782 : decode cL_law 782 = .ok (.iload 4, 2) := by decide +kernel
theorem dL_law_784 : decode cL_law 784 = .ok (.iconst 1, 1) := by decide +kernel
theorem dL_law_785 : decode cL_law 785 = .ok (.iadd, 1) := by decide +kernel
theorem dL_law_786 : decode cL_law 786 = .ok (.iaload, 1) := by decide +kernel
theorem dL_law_787 : decode cL_law 787 = .ok (.invokevirtual 93, 3) := by decide +kernel
theorem dL_law_790 : decode cL_law 790 = .ok (.if_icmp .eq 509, 3) := by decide +kernel
theorem dL_law_793 : decode cL_law 793 = .ok (.iconst 0, 1) := by decide +kernel
theorem dL_law_794 : decode cL_law 794 = .ok (.ireturn, 1) := by decide +kernel
theorem dL_law_795 : decode cL_law 795 = .ok (.aload_n 1, 1) := by decide +kernel
theorem dL_law_796 : decode cL_law 796 = .ok (.aload_n 0, 1) := by decide +kernel
theorem dL_law_797 : decode cL_law 797 = .ok (.iload 4, 2) := by decide +kernel
theorem dL_law_799 : decode cL_law 799 = .ok (.iconst 1, 1) := by decide +kernel
theorem dL_law_800 : decode cL_law 800 = .ok (.iadd, 1) := by decide +kernel
theorem dL_law_801 : decode cL_law 801 = .ok (.iaload, 1) := by decide +kernel
theorem dL_law_802 : decode cL_law 802 = .ok (.invokevirtual 94, 3) := by decide +kernel
theorem dL_law_805 : decode cL_law 805 = .ok (.aload_n 2, 1) := by decide +kernel
theorem dL_law_806 : decode cL_law 806 = .ok (.aload_n 0, 1) := by decide +kernel
theorem dL_law_807 : decode cL_law 807 = .ok (.iload 4, 2) := by decide +kernel
theorem dL_law_809 : decode cL_law 809 = .ok (.iconst 1, 1) := by decide +kernel
theorem dL_law_810 : decode cL_law 810 = .ok (.iadd, 1) := by decide +kernel
theorem dL_law_811 : decode cL_law 811 = .ok (.iaload, 1) := by decide +kernel
theorem dL_law_812 : decode cL_law 812 = .ok (.invokevirtual 97, 3) := by decide +kernel
theorem dL_law_815 : decode cL_law 815 = .ok (.if_icmp .eq 484, 3) := by decide +kernel
theorem dL_law_818 : decode cL_law 818 = .ok (.iconst 0, 1) := by decide +kernel
theorem dL_law_819 : decode cL_law 819 = .ok (.ireturn, 1) := by decide +kernel
theorem dL_law_820 : decode cL_law 820 = .ok (.aload_n 1, 1) := by decide +kernel
theorem dL_law_821 : decode cL_law 821 = .ok (.aload_n 0, 1) := by decide +kernel
theorem dL_law_822 : decode cL_law 822 = .ok (.iload 4, 2) := by decide +kernel
theorem dL_law_824 : decode cL_law 824 = .ok (.iconst 1, 1) := by decide +kernel
theorem dL_law_825 : decode cL_law 825 = .ok (.iadd, 1) := by decide +kernel
theorem dL_law_826 : decode cL_law 826 = .ok (.iaload, 1) := by decide +kernel
theorem dL_law_827 : decode cL_law 827 = .ok (.aload_n 0, 1) := by decide +kernel
theorem dL_law_828 : decode cL_law 828 = .ok (.iload 4, 2) := by decide +kernel
theorem dL_law_830 : decode cL_law 830 = .ok (.iconst 2, 1) := by decide +kernel
theorem dL_law_831 : decode cL_law 831 = .ok (.iadd, 1) := by decide +kernel
theorem dL_law_832 : decode cL_law 832 = .ok (.iaload, 1) := by decide +kernel
theorem dL_law_833 : decode cL_law 833 = .ok (.aload_n 0, 1) := by decide +kernel
theorem dL_law_834 : decode cL_law 834 = .ok (.iload 4, 2) := by decide +kernel
theorem dL_law_836 : decode cL_law 836 = .ok (.iconst 3, 1) := by decide +kernel
theorem dL_law_837 : decode cL_law 837 = .ok (.iadd, 1) := by decide +kernel
theorem dL_law_838 : decode cL_law 838 = .ok (.iaload, 1) := by decide +kernel
theorem dL_law_839 : decode cL_law 839 = .ok (.invokevirtual 98, 3) := by decide +kernel
theorem dL_law_842 : decode cL_law 842 = .ok (.aload_n 2, 1) := by decide +kernel
theorem dL_law_843 : decode cL_law 843 = .ok (.aload_n 0, 1) := by decide +kernel
theorem dL_law_844 : decode cL_law 844 = .ok (.iload 4, 2) := by decide +kernel
theorem dL_law_846 : decode cL_law 846 = .ok (.iconst 1, 1) := by decide +kernel
theorem dL_law_847 : decode cL_law 847 = .ok (.iadd, 1) := by decide +kernel
theorem dL_law_848 : decode cL_law 848 = .ok (.iaload, 1) := by decide +kernel
theorem dL_law_849 : decode cL_law 849 = .ok (.aload_n 0, 1) := by decide +kernel
theorem dL_law_850 : decode cL_law 850 = .ok (.iload 4, 2) := by decide +kernel
theorem dL_law_852 : decode cL_law 852 = .ok (.iconst 2, 1) := by decide +kernel
theorem dL_law_853 : decode cL_law 853 = .ok (.iadd, 1) := by decide +kernel
theorem dL_law_854 : decode cL_law 854 = .ok (.iaload, 1) := by decide +kernel
theorem dL_law_855 : decode cL_law 855 = .ok (.aload_n 0, 1) := by decide +kernel
theorem dL_law_856 : decode cL_law 856 = .ok (.iload 4, 2) := by decide +kernel
theorem dL_law_858 : decode cL_law 858 = .ok (.iconst 3, 1) := by decide +kernel
theorem dL_law_859 : decode cL_law 859 = .ok (.iadd, 1) := by decide +kernel
theorem dL_law_860 : decode cL_law 860 = .ok (.iaload, 1) := by decide +kernel
theorem dL_law_861 : decode cL_law 861 = .ok (.invokevirtual 102, 3) := by decide +kernel
theorem dL_law_864 : decode cL_law 864 = .ok (.lcmp, 1) := by decide +kernel
theorem dL_law_865 : decode cL_law 865 = .ok (.ifCond .eq 434, 3) := by decide +kernel
theorem dL_law_868 : decode cL_law 868 = .ok (.iconst 0, 1) := by decide +kernel
theorem dL_law_869 : decode cL_law 869 = .ok (.ireturn, 1) := by decide +kernel
theorem dL_law_870 : decode cL_law 870 = .ok (.aload_n 1, 1) := by decide +kernel
theorem dL_law_871 : decode cL_law 871 = .ok (.aload_n 0, 1) := by decide +kernel
theorem dL_law_872 : decode cL_law 872 = .ok (.iload 4, 2) := by decide +kernel
theorem dL_law_874 : decode cL_law 874 = .ok (.iconst 1, 1) := by decide +kernel
theorem dL_law_875 : decode cL_law 875 = .ok (.iadd, 1) := by decide +kernel
theorem dL_law_876 : decode cL_law 876 = .ok (.iaload, 1) := by decide +kernel
theorem dL_law_877 : decode cL_law 877 = .ok (.aload_n 0, 1) := by decide +kernel
theorem dL_law_878 : decode cL_law 878 = .ok (.iload 4, 2) := by decide +kernel
theorem dL_law_880 : decode cL_law 880 = .ok (.iconst 2, 1) := by decide +kernel
theorem dL_law_881 : decode cL_law 881 = .ok (.iadd, 1) := by decide +kernel
theorem dL_law_882 : decode cL_law 882 = .ok (.iaload, 1) := by decide +kernel
theorem dL_law_883 : decode cL_law 883 = .ok (.invokevirtual 103, 3) := by decide +kernel
theorem dL_law_886 : decode cL_law 886 = .ok (.aload_n 2, 1) := by decide +kernel
theorem dL_law_887 : decode cL_law 887 = .ok (.aload_n 0, 1) := by decide +kernel
theorem dL_law_888 : decode cL_law 888 = .ok (.iload 4, 2) := by decide +kernel
theorem dL_law_890 : decode cL_law 890 = .ok (.iconst 1, 1) := by decide +kernel
theorem dL_law_891 : decode cL_law 891 = .ok (.iadd, 1) := by decide +kernel
theorem dL_law_892 : decode cL_law 892 = .ok (.iaload, 1) := by decide +kernel
theorem dL_law_893 : decode cL_law 893 = .ok (.aload_n 0, 1) := by decide +kernel
theorem dL_law_894 : decode cL_law 894 = .ok (.iload 4, 2) := by decide +kernel
theorem dL_law_896 : decode cL_law 896 = .ok (.iconst 2, 1) := by decide +kernel
theorem dL_law_897 : decode cL_law 897 = .ok (.iadd, 1) := by decide +kernel
theorem dL_law_898 : decode cL_law 898 = .ok (.iaload, 1) := by decide +kernel
theorem dL_law_899 : decode cL_law 899 = .ok (.invokevirtual 106, 3) := by decide +kernel
theorem dL_law_902 : decode cL_law 902 = .ok (.if_icmp .eq 397, 3) := by decide +kernel
theorem dL_law_905 : decode cL_law 905 = .ok (.iconst 0, 1) := by decide +kernel
theorem dL_law_906 : decode cL_law 906 = .ok (.ireturn, 1) := by decide +kernel
theorem dL_law_907 : decode cL_law 907 = .ok (.aload_n 1, 1) := by decide +kernel
theorem dL_law_908 : decode cL_law 908 = .ok (.aload_n 0, 1) := by decide +kernel
theorem dL_law_909 : decode cL_law 909 = .ok (.iload 4, 2) := by decide +kernel
theorem dL_law_911 : decode cL_law 911 = .ok (.iconst 1, 1) := by decide +kernel
theorem dL_law_912 : decode cL_law 912 = .ok (.iadd, 1) := by decide +kernel
theorem dL_law_913 : decode cL_law 913 = .ok (.iaload, 1) := by decide +kernel
theorem dL_law_914 : decode cL_law 914 = .ok (.aload_n 0, 1) := by decide +kernel
theorem dL_law_915 : decode cL_law 915 = .ok (.iload 4, 2) := by decide +kernel
theorem dL_law_917 : decode cL_law 917 = .ok (.iconst 2, 1) := by decide +kernel
theorem dL_law_918 : decode cL_law 918 = .ok (.iadd, 1) := by decide +kernel
theorem dL_law_919 : decode cL_law 919 = .ok (.iaload, 1) := by decide +kernel
theorem dL_law_920 : decode cL_law 920 = .ok (.aload_n 0, 1) := by decide +kernel
theorem dL_law_921 : decode cL_law 921 = .ok (.iload 4, 2) := by decide +kernel
theorem dL_law_923 : decode cL_law 923 = .ok (.iconst 3, 1) := by decide +kernel
theorem dL_law_924 : decode cL_law 924 = .ok (.iadd, 1) := by decide +kernel
theorem dL_law_925 : decode cL_law 925 = .ok (.iaload, 1) := by decide +kernel
theorem dL_law_926 : decode cL_law 926 = .ok (.invokevirtual 107, 3) := by decide +kernel
theorem dL_law_929 : decode cL_law 929 = .ok (.aload_n 2, 1) := by decide +kernel
theorem dL_law_930 : decode cL_law 930 = .ok (.aload_n 0, 1) := by decide +kernel
theorem dL_law_931 : decode cL_law 931 = .ok (.iload 4, 2) := by decide +kernel
theorem dL_law_933 : decode cL_law 933 = .ok (.iconst 1, 1) := by decide +kernel
theorem dL_law_934 : decode cL_law 934 = .ok (.iadd, 1) := by decide +kernel
theorem dL_law_935 : decode cL_law 935 = .ok (.iaload, 1) := by decide +kernel
theorem dL_law_936 : decode cL_law 936 = .ok (.aload_n 0, 1) := by decide +kernel
theorem dL_law_937 : decode cL_law 937 = .ok (.iload 4, 2) := by decide +kernel
theorem dL_law_939 : decode cL_law 939 = .ok (.iconst 2, 1) := by decide +kernel
theorem dL_law_940 : decode cL_law 940 = .ok (.iadd, 1) := by decide +kernel
theorem dL_law_941 : decode cL_law 941 = .ok (.iaload, 1) := by decide +kernel
theorem dL_law_942 : decode cL_law 942 = .ok (.aload_n 0, 1) := by decide +kernel
theorem dL_law_943 : decode cL_law 943 = .ok (.iload 4, 2) := by decide +kernel
theorem dL_law_945 : decode cL_law 945 = .ok (.iconst 3, 1) := by decide +kernel
theorem dL_law_946 : decode cL_law 946 = .ok (.iadd, 1) := by decide +kernel
theorem dL_law_947 : decode cL_law 947 = .ok (.iaload, 1) := by decide +kernel
theorem dL_law_948 : decode cL_law 948 = .ok (.invokevirtual 110, 3) := by decide +kernel
theorem dL_law_951 : decode cL_law 951 = .ok (.lcmp, 1) := by decide +kernel
theorem dL_law_952 : decode cL_law 952 = .ok (.ifCond .eq 347, 3) := by decide +kernel
theorem dL_law_955 : decode cL_law 955 = .ok (.iconst 0, 1) := by decide +kernel
theorem dL_law_956 : decode cL_law 956 = .ok (.ireturn, 1) := by decide +kernel
theorem dL_law_957 : decode cL_law 957 = .ok (.aload_n 1, 1) := by decide +kernel
theorem dL_law_958 : decode cL_law 958 = .ok (.aload_n 0, 1) := by decide +kernel
theorem dL_law_959 : decode cL_law 959 = .ok (.iload 4, 2) := by decide +kernel
theorem dL_law_961 : decode cL_law 961 = .ok (.iconst 1, 1) := by decide +kernel
theorem dL_law_962 : decode cL_law 962 = .ok (.iadd, 1) := by decide +kernel
theorem dL_law_963 : decode cL_law 963 = .ok (.iaload, 1) := by decide +kernel
theorem dL_law_964 : decode cL_law 964 = .ok (.aload_n 0, 1) := by decide +kernel
theorem dL_law_965 : decode cL_law 965 = .ok (.iload 4, 2) := by decide +kernel
theorem dL_law_967 : decode cL_law 967 = .ok (.iconst 2, 1) := by decide +kernel
theorem dL_law_968 : decode cL_law 968 = .ok (.iadd, 1) := by decide +kernel
theorem dL_law_969 : decode cL_law 969 = .ok (.iaload, 1) := by decide +kernel
theorem dL_law_970 : decode cL_law 970 = .ok (.aload_n 0, 1) := by decide +kernel
theorem dL_law_971 : decode cL_law 971 = .ok (.iload 4, 2) := by decide +kernel
theorem dL_law_973 : decode cL_law 973 = .ok (.iconst 3, 1) := by decide +kernel
theorem dL_law_974 : decode cL_law 974 = .ok (.iadd, 1) := by decide +kernel
theorem dL_law_975 : decode cL_law 975 = .ok (.iaload, 1) := by decide +kernel
theorem dL_law_976 : decode cL_law 976 = .ok (.aload_n 0, 1) := by decide +kernel
theorem dL_law_977 : decode cL_law 977 = .ok (.iload 4, 2) := by decide +kernel
theorem dL_law_979 : decode cL_law 979 = .ok (.iconst 4, 1) := by decide +kernel
theorem dL_law_980 : decode cL_law 980 = .ok (.iadd, 1) := by decide +kernel
theorem dL_law_981 : decode cL_law 981 = .ok (.iaload, 1) := by decide +kernel
theorem dL_law_982 : decode cL_law 982 = .ok (.invokevirtual 111, 3) := by decide +kernel
theorem dL_law_985 : decode cL_law 985 = .ok (.aload_n 2, 1) := by decide +kernel
theorem dL_law_986 : decode cL_law 986 = .ok (.aload_n 0, 1) := by decide +kernel
theorem dL_law_987 : decode cL_law 987 = .ok (.iload 4, 2) := by decide +kernel
theorem dL_law_989 : decode cL_law 989 = .ok (.iconst 1, 1) := by decide +kernel
theorem dL_law_990 : decode cL_law 990 = .ok (.iadd, 1) := by decide +kernel
theorem dL_law_991 : decode cL_law 991 = .ok (.iaload, 1) := by decide +kernel
theorem dL_law_992 : decode cL_law 992 = .ok (.aload_n 0, 1) := by decide +kernel
theorem dL_law_993 : decode cL_law 993 = .ok (.iload 4, 2) := by decide +kernel
theorem dL_law_995 : decode cL_law 995 = .ok (.iconst 2, 1) := by decide +kernel
theorem dL_law_996 : decode cL_law 996 = .ok (.iadd, 1) := by decide +kernel
theorem dL_law_997 : decode cL_law 997 = .ok (.iaload, 1) := by decide +kernel
theorem dL_law_998 : decode cL_law 998 = .ok (.aload_n 0, 1) := by decide +kernel
theorem dL_law_999 : decode cL_law 999 = .ok (.iload 4, 2) := by decide +kernel
theorem dL_law_1001 : decode cL_law 1001 = .ok (.iconst 3, 1) := by decide +kernel
theorem dL_law_1002 : decode cL_law 1002 = .ok (.iadd, 1) := by decide +kernel
theorem dL_law_1003 : decode cL_law 1003 = .ok (.iaload, 1) := by decide +kernel
theorem dL_law_1004 : decode cL_law 1004 = .ok (.aload_n 0, 1) := by decide +kernel
theorem dL_law_1005 : decode cL_law 1005 = .ok (.iload 4, 2) := by decide +kernel
theorem dL_law_1007 : decode cL_law 1007 = .ok (.iconst 4, 1) := by decide +kernel
theorem dL_law_1008 : decode cL_law 1008 = .ok (.iadd, 1) := by decide +kernel
theorem dL_law_1009 : decode cL_law 1009 = .ok (.iaload, 1) := by decide +kernel
theorem dL_law_1010 : decode cL_law 1010 = .ok (.invokevirtual 115, 3) := by decide +kernel
theorem dL_law_1013 : decode cL_law 1013 = .ok (.lcmp, 1) := by decide +kernel
theorem dL_law_1014 : decode cL_law 1014 = .ok (.ifCond .eq 285, 3) := by decide +kernel
theorem dL_law_1017 : decode cL_law 1017 = .ok (.iconst 0, 1) := by decide +kernel
theorem dL_law_1018 : decode cL_law 1018 = .ok (.ireturn, 1) := by decide +kernel
theorem dL_law_1019 : decode cL_law 1019 = .ok (.aload_n 1, 1) := by decide +kernel
theorem dL_law_1020 : decode cL_law 1020 = .ok (.aload_n 0, 1) := by decide +kernel
theorem dL_law_1021 : decode cL_law 1021 = .ok (.iload 4, 2) := by decide +kernel
theorem dL_law_1023 : decode cL_law 1023 = .ok (.iconst 1, 1) := by decide +kernel
theorem dL_law_1024 : decode cL_law 1024 = .ok (.iadd, 1) := by decide +kernel
theorem dL_law_1025 : decode cL_law 1025 = .ok (.iaload, 1) := by decide +kernel
theorem dL_law_1026 : decode cL_law 1026 = .ok (.invokevirtual 116, 3) := by decide +kernel
theorem dL_law_1029 : decode cL_law 1029 = .ok (.aload_n 2, 1) := by decide +kernel
theorem dL_law_1030 : decode cL_law 1030 = .ok (.aload_n 0, 1) := by decide +kernel
theorem dL_law_1031 : decode cL_law 1031 = .ok (.iload 4, 2) := by decide +kernel
theorem dL_law_1033 : decode cL_law 1033 = .ok (.iconst 1, 1) := by decide +kernel
theorem dL_law_1034 : decode cL_law 1034 = .ok (.iadd, 1) := by decide +kernel
theorem dL_law_1035 : decode cL_law 1035 = .ok (.iaload, 1) := by decide +kernel
theorem dL_law_1036 : decode cL_law 1036 = .ok (.invokevirtual 119, 3) := by decide +kernel
theorem dL_law_1039 : decode cL_law 1039 = .ok (.lcmp, 1) := by decide +kernel
theorem dL_law_1040 : decode cL_law 1040 = .ok (.ifCond .eq 259, 3) := by decide +kernel
theorem dL_law_1043 : decode cL_law 1043 = .ok (.iconst 0, 1) := by decide +kernel
theorem dL_law_1044 : decode cL_law 1044 = .ok (.ireturn, 1) := by decide +kernel
theorem dL_law_1045 : decode cL_law 1045 = .ok (.aload_n 1, 1) := by decide +kernel
theorem dL_law_1046 : decode cL_law 1046 = .ok (.aload_n 0, 1) := by decide +kernel
theorem dL_law_1047 : decode cL_law 1047 = .ok (.iload 4, 2) := by decide +kernel
theorem dL_law_1049 : decode cL_law 1049 = .ok (.iconst 1, 1) := by decide +kernel
theorem dL_law_1050 : decode cL_law 1050 = .ok (.iadd, 1) := by decide +kernel
theorem dL_law_1051 : decode cL_law 1051 = .ok (.iaload, 1) := by decide +kernel
theorem dL_law_1052 : decode cL_law 1052 = .ok (.aload_n 0, 1) := by decide +kernel
theorem dL_law_1053 : decode cL_law 1053 = .ok (.iload 4, 2) := by decide +kernel
theorem dL_law_1055 : decode cL_law 1055 = .ok (.iconst 2, 1) := by decide +kernel
theorem dL_law_1056 : decode cL_law 1056 = .ok (.iadd, 1) := by decide +kernel
theorem dL_law_1057 : decode cL_law 1057 = .ok (.iaload, 1) := by decide +kernel
theorem dL_law_1058 : decode cL_law 1058 = .ok (.aload_n 0, 1) := by decide +kernel
theorem dL_law_1059 : decode cL_law 1059 = .ok (.iload 4, 2) := by decide +kernel
theorem dL_law_1061 : decode cL_law 1061 = .ok (.iconst 3, 1) := by decide +kernel
theorem dL_law_1062 : decode cL_law 1062 = .ok (.iadd, 1) := by decide +kernel
theorem dL_law_1063 : decode cL_law 1063 = .ok (.iaload, 1) := by decide +kernel
theorem dL_law_1064 : decode cL_law 1064 = .ok (.invokevirtual 120, 3) := by decide +kernel
theorem dL_law_1067 : decode cL_law 1067 = .ok (.aload_n 2, 1) := by decide +kernel
theorem dL_law_1068 : decode cL_law 1068 = .ok (.aload_n 0, 1) := by decide +kernel
theorem dL_law_1069 : decode cL_law 1069 = .ok (.iload 4, 2) := by decide +kernel
theorem dL_law_1071 : decode cL_law 1071 = .ok (.iconst 1, 1) := by decide +kernel
theorem dL_law_1072 : decode cL_law 1072 = .ok (.iadd, 1) := by decide +kernel
theorem dL_law_1073 : decode cL_law 1073 = .ok (.iaload, 1) := by decide +kernel
theorem dL_law_1074 : decode cL_law 1074 = .ok (.aload_n 0, 1) := by decide +kernel
theorem dL_law_1075 : decode cL_law 1075 = .ok (.iload 4, 2) := by decide +kernel
theorem dL_law_1077 : decode cL_law 1077 = .ok (.iconst 2, 1) := by decide +kernel
theorem dL_law_1078 : decode cL_law 1078 = .ok (.iadd, 1) := by decide +kernel
theorem dL_law_1079 : decode cL_law 1079 = .ok (.iaload, 1) := by decide +kernel
theorem dL_law_1080 : decode cL_law 1080 = .ok (.aload_n 0, 1) := by decide +kernel
theorem dL_law_1081 : decode cL_law 1081 = .ok (.iload 4, 2) := by decide +kernel
theorem dL_law_1083 : decode cL_law 1083 = .ok (.iconst 3, 1) := by decide +kernel
theorem dL_law_1084 : decode cL_law 1084 = .ok (.iadd, 1) := by decide +kernel
theorem dL_law_1085 : decode cL_law 1085 = .ok (.iaload, 1) := by decide +kernel
theorem dL_law_1086 : decode cL_law 1086 = .ok (.invokevirtual 124, 3) := by decide +kernel
theorem dL_law_1089 : decode cL_law 1089 = .ok (.if_icmp .eq 210, 3) := by decide +kernel
theorem dL_law_1092 : decode cL_law 1092 = .ok (.iconst 0, 1) := by decide +kernel
theorem dL_law_1093 : decode cL_law 1093 = .ok (.ireturn, 1) := by decide +kernel
theorem dL_law_1094 : decode cL_law 1094 = .ok (.aload_n 1, 1) := by decide +kernel
theorem dL_law_1095 : decode cL_law 1095 = .ok (.aload_n 0, 1) := by decide +kernel
theorem dL_law_1096 : decode cL_law 1096 = .ok (.iload 4, 2) := by decide +kernel
theorem dL_law_1098 : decode cL_law 1098 = .ok (.iconst 1, 1) := by decide +kernel
theorem dL_law_1099 : decode cL_law 1099 = .ok (.iadd, 1) := by decide +kernel
theorem dL_law_1100 : decode cL_law 1100 = .ok (.iaload, 1) := by decide +kernel
theorem dL_law_1101 : decode cL_law 1101 = .ok (.aload_n 0, 1) := by decide +kernel
theorem dL_law_1102 : decode cL_law 1102 = .ok (.iload 4, 2) := by decide +kernel
theorem dL_law_1104 : decode cL_law 1104 = .ok (.iconst 2, 1) := by decide +kernel
theorem dL_law_1105 : decode cL_law 1105 = .ok (.iadd, 1) := by decide +kernel
theorem dL_law_1106 : decode cL_law 1106 = .ok (.iaload, 1) := by decide +kernel
theorem dL_law_1107 : decode cL_law 1107 = .ok (.invokevirtual 125, 3) := by decide +kernel
theorem dL_law_1110 : decode cL_law 1110 = .ok (.aload_n 2, 1) := by decide +kernel
theorem dL_law_1111 : decode cL_law 1111 = .ok (.aload_n 0, 1) := by decide +kernel
theorem dL_law_1112 : decode cL_law 1112 = .ok (.iload 4, 2) := by decide +kernel
theorem dL_law_1114 : decode cL_law 1114 = .ok (.iconst 1, 1) := by decide +kernel
theorem dL_law_1115 : decode cL_law 1115 = .ok (.iadd, 1) := by decide +kernel
theorem dL_law_1116 : decode cL_law 1116 = .ok (.iaload, 1) := by decide +kernel
theorem dL_law_1117 : decode cL_law 1117 = .ok (.aload_n 0, 1) := by decide +kernel
theorem dL_law_1118 : decode cL_law 1118 = .ok (.iload 4, 2) := by decide +kernel
theorem dL_law_1120 : decode cL_law 1120 = .ok (.iconst 2, 1) := by decide +kernel
theorem dL_law_1121 : decode cL_law 1121 = .ok (.iadd, 1) := by decide +kernel
theorem dL_law_1122 : decode cL_law 1122 = .ok (.iaload, 1) := by decide +kernel
theorem dL_law_1123 : decode cL_law 1123 = .ok (.invokevirtual 128, 3) := by decide +kernel
theorem dL_law_1126 : decode cL_law 1126 = .ok (.if_icmp .eq 173, 3) := by decide +kernel
theorem dL_law_1129 : decode cL_law 1129 = .ok (.iconst 0, 1) := by decide +kernel
theorem dL_law_1130 : decode cL_law 1130 = .ok (.ireturn, 1) := by decide +kernel
theorem dL_law_1131 : decode cL_law 1131 = .ok (.aload_n 1, 1) := by decide +kernel
theorem dL_law_1132 : decode cL_law 1132 = .ok (.aload_n 0, 1) := by decide +kernel
theorem dL_law_1133 : decode cL_law 1133 = .ok (.iload 4, 2) := by decide +kernel
theorem dL_law_1135 : decode cL_law 1135 = .ok (.iconst 1, 1) := by decide +kernel
theorem dL_law_1136 : decode cL_law 1136 = .ok (.iadd, 1) := by decide +kernel
theorem dL_law_1137 : decode cL_law 1137 = .ok (.iaload, 1) := by decide +kernel
theorem dL_law_1138 : decode cL_law 1138 = .ok (.aload_n 0, 1) := by decide +kernel
theorem dL_law_1139 : decode cL_law 1139 = .ok (.iload 4, 2) := by decide +kernel
theorem dL_law_1141 : decode cL_law 1141 = .ok (.iconst 2, 1) := by decide +kernel
theorem dL_law_1142 : decode cL_law 1142 = .ok (.iadd, 1) := by decide +kernel
theorem dL_law_1143 : decode cL_law 1143 = .ok (.iaload, 1) := by decide +kernel
theorem dL_law_1144 : decode cL_law 1144 = .ok (.invokevirtual 129, 3) := by decide +kernel
theorem dL_law_1147 : decode cL_law 1147 = .ok (.aload_n 2, 1) := by decide +kernel
theorem dL_law_1148 : decode cL_law 1148 = .ok (.aload_n 0, 1) := by decide +kernel
theorem dL_law_1149 : decode cL_law 1149 = .ok (.iload 4, 2) := by decide +kernel
theorem dL_law_1151 : decode cL_law 1151 = .ok (.iconst 1, 1) := by decide +kernel
theorem dL_law_1152 : decode cL_law 1152 = .ok (.iadd, 1) := by decide +kernel
theorem dL_law_1153 : decode cL_law 1153 = .ok (.iaload, 1) := by decide +kernel
theorem dL_law_1154 : decode cL_law 1154 = .ok (.aload_n 0, 1) := by decide +kernel
theorem dL_law_1155 : decode cL_law 1155 = .ok (.iload 4, 2) := by decide +kernel
theorem dL_law_1157 : decode cL_law 1157 = .ok (.iconst 2, 1) := by decide +kernel
theorem dL_law_1158 : decode cL_law 1158 = .ok (.iadd, 1) := by decide +kernel
theorem dL_law_1159 : decode cL_law 1159 = .ok (.iaload, 1) := by decide +kernel
theorem dL_law_1160 : decode cL_law 1160 = .ok (.invokevirtual 132, 3) := by decide +kernel
theorem dL_law_1163 : decode cL_law 1163 = .ok (.if_icmp .eq 136, 3) := by decide +kernel
theorem dL_law_1166 : decode cL_law 1166 = .ok (.iconst 0, 1) := by decide +kernel
theorem dL_law_1167 : decode cL_law 1167 = .ok (.ireturn, 1) := by decide +kernel
theorem dL_law_1168 : decode cL_law 1168 = .ok (.aload_n 1, 1) := by decide +kernel
theorem dL_law_1169 : decode cL_law 1169 = .ok (.aload_n 0, 1) := by decide +kernel
theorem dL_law_1170 : decode cL_law 1170 = .ok (.iload 4, 2) := by decide +kernel
theorem dL_law_1172 : decode cL_law 1172 = .ok (.iconst 1, 1) := by decide +kernel
theorem dL_law_1173 : decode cL_law 1173 = .ok (.iadd, 1) := by decide +kernel
theorem dL_law_1174 : decode cL_law 1174 = .ok (.iaload, 1) := by decide +kernel
theorem dL_law_1175 : decode cL_law 1175 = .ok (.aload_n 0, 1) := by decide +kernel
theorem dL_law_1176 : decode cL_law 1176 = .ok (.iload 4, 2) := by decide +kernel
theorem dL_law_1178 : decode cL_law 1178 = .ok (.iconst 2, 1) := by decide +kernel
theorem dL_law_1179 : decode cL_law 1179 = .ok (.iadd, 1) := by decide +kernel
theorem dL_law_1180 : decode cL_law 1180 = .ok (.iaload, 1) := by decide +kernel
theorem dL_law_1181 : decode cL_law 1181 = .ok (.aload_n 0, 1) := by decide +kernel
theorem dL_law_1182 : decode cL_law 1182 = .ok (.iload 4, 2) := by decide +kernel
theorem dL_law_1184 : decode cL_law 1184 = .ok (.iconst 3, 1) := by decide +kernel
theorem dL_law_1185 : decode cL_law 1185 = .ok (.iadd, 1) := by decide +kernel
theorem dL_law_1186 : decode cL_law 1186 = .ok (.iaload, 1) := by decide +kernel
theorem dL_law_1187 : decode cL_law 1187 = .ok (.invokevirtual 133, 3) := by decide +kernel
theorem dL_law_1190 : decode cL_law 1190 = .ok (.aload_n 2, 1) := by decide +kernel
theorem dL_law_1191 : decode cL_law 1191 = .ok (.aload_n 0, 1) := by decide +kernel
theorem dL_law_1192 : decode cL_law 1192 = .ok (.iload 4, 2) := by decide +kernel
theorem dL_law_1194 : decode cL_law 1194 = .ok (.iconst 1, 1) := by decide +kernel
theorem dL_law_1195 : decode cL_law 1195 = .ok (.iadd, 1) := by decide +kernel
theorem dL_law_1196 : decode cL_law 1196 = .ok (.iaload, 1) := by decide +kernel
theorem dL_law_1197 : decode cL_law 1197 = .ok (.aload_n 0, 1) := by decide +kernel
theorem dL_law_1198 : decode cL_law 1198 = .ok (.iload 4, 2) := by decide +kernel
theorem dL_law_1200 : decode cL_law 1200 = .ok (.iconst 2, 1) := by decide +kernel
theorem dL_law_1201 : decode cL_law 1201 = .ok (.iadd, 1) := by decide +kernel
theorem dL_law_1202 : decode cL_law 1202 = .ok (.iaload, 1) := by decide +kernel
theorem dL_law_1203 : decode cL_law 1203 = .ok (.aload_n 0, 1) := by decide +kernel
theorem dL_law_1204 : decode cL_law 1204 = .ok (.iload 4, 2) := by decide +kernel
theorem dL_law_1206 : decode cL_law 1206 = .ok (.iconst 3, 1) := by decide +kernel
theorem dL_law_1207 : decode cL_law 1207 = .ok (.iadd, 1) := by decide +kernel
theorem dL_law_1208 : decode cL_law 1208 = .ok (.iaload, 1) := by decide +kernel
theorem dL_law_1209 : decode cL_law 1209 = .ok (.invokevirtual 137, 3) := by decide +kernel
theorem dL_law_1212 : decode cL_law 1212 = .ok (.if_icmp .eq 87, 3) := by decide +kernel
theorem dL_law_1215 : decode cL_law 1215 = .ok (.iconst 0, 1) := by decide +kernel
theorem dL_law_1216 : decode cL_law 1216 = .ok (.ireturn, 1) := by decide +kernel
theorem dL_law_1217 : decode cL_law 1217 = .ok (.aload_n 1, 1) := by decide +kernel
theorem dL_law_1218 : decode cL_law 1218 = .ok (.aload_n 0, 1) := by decide +kernel
theorem dL_law_1219 : decode cL_law 1219 = .ok (.iload 4, 2) := by decide +kernel
theorem dL_law_1221 : decode cL_law 1221 = .ok (.iconst 1, 1) := by decide +kernel
theorem dL_law_1222 : decode cL_law 1222 = .ok (.iadd, 1) := by decide +kernel
theorem dL_law_1223 : decode cL_law 1223 = .ok (.iaload, 1) := by decide +kernel
theorem dL_law_1224 : decode cL_law 1224 = .ok (.aload_n 3, 1) := by decide +kernel
theorem dL_law_1225 : decode cL_law 1225 = .ok (.invokestatic 138, 3) := by decide +kernel
theorem dL_law_1228 : decode cL_law 1228 = .ok (.istore 5, 2) := by decide +kernel
theorem dL_law_1230 : decode cL_law 1230 = .ok (.aload_n 2, 1) := by decide +kernel
theorem dL_law_1231 : decode cL_law 1231 = .ok (.aload_n 0, 1) := by decide +kernel
theorem dL_law_1232 : decode cL_law 1232 = .ok (.iload 4, 2) := by decide +kernel
theorem dL_law_1234 : decode cL_law 1234 = .ok (.iconst 1, 1) := by decide +kernel
theorem dL_law_1235 : decode cL_law 1235 = .ok (.iadd, 1) := by decide +kernel
theorem dL_law_1236 : decode cL_law 1236 = .ok (.iaload, 1) := by decide +kernel
theorem dL_law_1237 : decode cL_law 1237 = .ok (.invokevirtual 143, 3) := by decide +kernel
theorem dL_law_1240 : decode cL_law 1240 = .ok (.istore 6, 2) := by decide +kernel
theorem dL_law_1242 : decode cL_law 1242 = .ok (.aload_n 2, 1) := by decide +kernel
theorem dL_law_1243 : decode cL_law 1243 = .ok (.invokevirtual 144, 3) := by decide +kernel
theorem dL_law_1246 : decode cL_law 1246 = .ok (.iload 5, 2) := by decide +kernel
theorem dL_law_1248 : decode cL_law 1248 = .ok (.if_icmp .eq 5, 3) := by decide +kernel
theorem dL_law_1251 : decode cL_law 1251 = .ok (.iconst 0, 1) := by decide +kernel
theorem dL_law_1252 : decode cL_law 1252 = .ok (.ireturn, 1) := by decide +kernel
theorem dL_law_1253 : decode cL_law 1253 = .ok (.iload 5, 2) := by decide +kernel
theorem dL_law_1255 : decode cL_law 1255 = .ok (.ifCond .ne 15, 3) := by decide +kernel
theorem dL_law_1258 : decode cL_law 1258 = .ok (.aload_n 3, 1) := by decide +kernel
theorem dL_law_1259 : decode cL_law 1259 = .ok (.iconst 0, 1) := by decide +kernel
theorem dL_law_1260 : decode cL_law 1260 = .ok (.laload, 1) := by decide +kernel
theorem dL_law_1261 : decode cL_law 1261 = .ok (.iload 6, 2) := by decide +kernel
theorem dL_law_1263 : decode cL_law 1263 = .ok (.i2l, 1) := by decide +kernel
theorem dL_law_1264 : decode cL_law 1264 = .ok (.lcmp, 1) := by decide +kernel
theorem dL_law_1265 : decode cL_law 1265 = .ok (.ifCond .eq 5, 3) := by decide +kernel
theorem dL_law_1268 : decode cL_law 1268 = .ok (.iconst 0, 1) := by decide +kernel
theorem dL_law_1269 : decode cL_law 1269 = .ok (.ireturn, 1) := by decide +kernel
theorem dL_law_1270 : decode cL_law 1270 = .ok (.goto 29, 3) := by decide +kernel
theorem dL_law_1273 : decode cL_law 1273 = .ok (.aload_n 1, 1) := by decide +kernel
theorem dL_law_1274 : decode cL_law 1274 = .ok (.invokevirtual 147, 3) := by decide +kernel
theorem dL_law_1277 : decode cL_law 1277 = .ok (.aload_n 2, 1) := by decide +kernel
theorem dL_law_1278 : decode cL_law 1278 = .ok (.invokevirtual 150, 3) := by decide +kernel
theorem dL_law_1281 : decode cL_law 1281 = .ok (.if_icmp .eq 18, 3) := by decide +kernel
theorem dL_law_1284 : decode cL_law 1284 = .ok (.iconst 0, 1) := by decide +kernel
theorem dL_law_1285 : decode cL_law 1285 = .ok (.ireturn, 1) := by decide +kernel
theorem dL_law_1286 : decode cL_law 1286 = .ok (.aload_n 1, 1) := by decide +kernel
theorem dL_law_1287 : decode cL_law 1287 = .ok (.invokevirtual 151, 3) := by decide +kernel
theorem dL_law_1290 : decode cL_law 1290 = .ok (.aload_n 2, 1) := by decide +kernel
theorem dL_law_1291 : decode cL_law 1291 = .ok (.invokevirtual 154, 3) := by decide +kernel
theorem dL_law_1294 : decode cL_law 1294 = .ok (.if_icmp .eq 5, 3) := by decide +kernel
theorem dL_law_1297 : decode cL_law 1297 = .ok (.iconst 0, 1) := by decide +kernel
theorem dL_law_1298 : decode cL_law 1298 = .ok (.ireturn, 1) := by decide +kernel
theorem dL_law_1299 : decode cL_law 1299 = .ok (.iinc 4 6, 3) := by decide +kernel
theorem dL_law_1302 : decode cL_law 1302 = .ok (.goto (-1279), 3) := by decide +kernel
theorem dL_law_1305 : decode cL_law 1305 = .ok (.iconst 1, 1) := by decide +kernel
theorem dL_law_1306 : decode cL_law 1306 = .ok (.ireturn, 1) := by decide +kernel
